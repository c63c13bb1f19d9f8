import java.util.ArrayList;
import java.util.Arrays;
import java.util.List;

/** A reader with one card. It counts calls, as nothing is promised after the 512th. */
final class Reader {
    static final int NO_REPLY = -1;
    private static final int MOST_CALLS = 512;
    private static final int MOST_INF = 32;

    private final TornCard card = new TornCard();
    private int calls = 0;
    /** What the latest ANSWER had in front of its STATUS. */
    int[] data = new int[0];

    private TornCard called() {
        calls++;
        if (calls > MOST_CALLS) {
            throw new IllegalStateException("a test must not use an object more than 512 times");
        }
        return card;
    }

    int file(int directory, int name, int size, int read, int change) {
        return called().file(directory, name, size, read, change);
    }

    int tear(int n) {
        return called().tear(n);
    }

    int on() {
        return called().on();
    }

    int off() {
        return called().off();
    }

    int feed(long w, int n) {
        return called().feed(w, n);
    }

    int block(int pcb, long w, int n) {
        return called().block(pcb, w, n);
    }

    int reply(int k) {
        return called().reply(k);
    }

    int stored(int file, int k) {
        return called().stored(file, k);
    }

    int state(int what) {
        return called().state(what);
    }

    int look(int f, int what) {
        return called().look(f, what);
    }

    /** The OCTETS as a word for feed or block, the first one lowest. */
    static long word(int... octets) {
        long w = 0;
        for (int k = octets.length - 1; k >= 0; k--) {
            w = w << 8 | octets[k];
        }
        return w;
    }

    static int[] join(int[] front, int... behind) {
        int[] all = Arrays.copyOf(front, front.length + behind.length);
        System.arraycopy(behind, 0, all, front.length, behind.length);
        return all;
    }

    /** count OCTETS: first, first + 1, and so on. */
    static int[] row(int first, int count) {
        int[] row = new int[count];
        for (int k = 0; k < count; k++) {
            row[k] = first + k & 255;
        }
        return row;
    }

    static int[] blockOf(int pcb, int... inf) {
        int[] block = join(join(new int[] {0, pcb, inf.length}, inf), 0);
        int sum = 0;
        for (int octet : block) {
            sum ^= octet;
        }
        block[block.length - 1] = sum;
        return block;
    }

    /** Feeds OCTETS as they are, eight at a time; what the last feed answered. */
    int feedAll(int... octets) {
        int there = 0;
        for (int from = 0; from < octets.length; from += 8) {
            int[] some = Arrays.copyOfRange(octets, from, Math.min(from + 8, octets.length));
            there = feed(word(some), some.length);
        }
        return there;
    }

    int[] reply() {
        List<Integer> octets = new ArrayList<>();
        for (int k = 0; k <= 40; k++) {
            int octet = reply(k);
            if (octet == NO_REPLY) {
                break;
            }
            octets.add(octet);
        }
        return octets.stream().mapToInt(Integer::intValue).toArray();
    }

    int[] send(int pcb, int... inf) {
        feedAll(blockOf(pcb, inf));
        return reply();
    }

    /** Sends a COMMAND in as many BLOCKS as it takes and fetches the whole ANSWER: the STATUS, or NO_REPLY. */
    int command(int... octets) {
        int in = state(11);
        int from = 0;
        while (octets.length - from > MOST_INF) {
            send(64 * in + 32, Arrays.copyOfRange(octets, from, from + MOST_INF));
            from += MOST_INF;
            in ^= 1;
        }
        int[] reply = send(64 * in, Arrays.copyOfRange(octets, from, octets.length));
        int[] answer = infOf(reply);
        while (reply.length > 1 && (reply[1] & 0xA0) == 32) {
            reply = send(128 + 16 * ((reply[1] >> 6 & 1) ^ 1));
            answer = join(answer, infOf(reply));
        }
        if (answer.length < 2) {
            return NO_REPLY;
        }
        data = Arrays.copyOf(answer, answer.length - 2);
        return answer[answer.length - 2] << 8 | answer[answer.length - 1];
    }

    private static int[] infOf(int[] reply) {
        return reply.length < 4 ? new int[0] : Arrays.copyOfRange(reply, 3, reply.length - 1);
    }

    int find(int name) {
        return command(0, 164, 0, 0, 2, name >> 8, name & 255);
    }

    int up() {
        return command(0, 164, 3, 0);
    }

    int read(int from, int expected) {
        return command(0, 176, from >> 8, from & 255, expected);
    }

    int change(int from, int... octets) {
        return command(join(new int[] {0, 214, from >> 8, from & 255, octets.length}, octets));
    }

    int tell(int secret) {
        return command(0, 32, 0, 1, 4, secret >>> 24, secret >> 16 & 255, secret >> 8 & 255, secret & 255);
    }

    int ask() {
        return command(0, 32, 0, 1);
    }

    int renew(int secret) {
        return command(0, 36, 0, 0, 4, secret >>> 24, secret >> 16 & 255, secret >> 8 & 255, secret & 255);
    }

    int[] storedOctets(int file, int count) {
        int[] octets = new int[count];
        for (int k = 0; k < count; k++) {
            octets[k] = stored(file, k);
        }
        return octets;
    }
}
