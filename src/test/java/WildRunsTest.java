import java.util.Random;

/** Runs of any calls with any arguments: none may throw, and what always holds must hold after each. */
public final class WildRunsTest {
    private static final int RUNS = 10000;
    /** Each takes up to 6 calls of the object, which with those of the last look stay below 512. */
    private static final int CALLS = 70;
    private static final int[] EDGES = {Integer.MIN_VALUE, -2, -1, 0, 1, 2, 3, 4, 8, 9, 24, 25, 32, 33, 40, 128, 200, 201,
        255, 256, 65535, 65536, Integer.MAX_VALUE};
    private static final int[] PCBS = {0, 0, 64, 64, 32, 96, 128, 144, 192, 193, 194, 129, 131, 255};
    private static final int[] INSTRUCTIONS = {164, 164, 176, 214, 214, 32, 36};

    public static void main(String[] args) {
        int broken = 0;
        int torn = 0;
        int done = 0;
        for (int seed = 0; seed < RUNS; seed++) {
            Random random = new Random(seed);
            TornCard card = new TornCard();
            for (int call = 0; call < CALLS; call++) {
                try {
                    anyCall(card, random);
                } catch (RuntimeException e) {
                    System.out.println("run " + seed + ", call " + call + " threw " + e);
                    broken++;
                    break;
                }
            }
            if (!holds(card)) {
                System.out.println("run " + seed + " ends with what cannot be");
                broken++;
            }
            torn += card.state(6);
            done += card.state(7);
        }
        Due.is("runs that broke", broken, 0);
        Due.is("the runs tear cards", torn > RUNS / 4 ? 1 : 0, 1);
        Due.is("the runs do COMMANDS", done > RUNS ? 1 : 0, 1);
        Due.end();
    }

    private static int any(Random random, int below) {
        return random.nextInt(8) == 0 ? EDGES[random.nextInt(EDGES.length)] : random.nextInt(below);
    }

    private static void anyCall(TornCard card, Random random) {
        switch (random.nextInt(16)) {
            case 0: card.file(any(random, 4), any(random, 3), any(random, 25), any(random, 3), any(random, 3)); break;
            case 1: card.tear(any(random, 12)); break;
            case 2: if (random.nextInt(4) == 0) { card.off(); } break;
            case 3: card.feed(random.nextLong(), any(random, 9)); break;
            case 4: card.reply(any(random, 40)); break;
            case 5: card.stored(any(random, 8), any(random, 24)); break;
            case 6: card.state(any(random, 16)); break;
            case 7: card.look(any(random, 8), any(random, 5)); break;
            case 8: card.block(any(random, 256), random.nextLong(), any(random, 9)); break;
            case 9: case 10: card.block(PCBS[random.nextInt(PCBS.length)], random.nextLong(), random.nextInt(9)); break;
            default: sensibleCommand(card, random);
        }
    }

    private static void sensibleCommand(TornCard card, Random random) {
        if (card.state(0) == 0) {
            card.on();
        }
        int ins = INSTRUCTIONS[random.nextInt(INSTRUCTIONS.length)];
        int length = ins == 164 ? 2 : ins == 214 ? 1 + random.nextInt(3) : 4;
        long head = (long) ins << 8 | (long) (ins == 32 ? 1 : 0) << 24 | (long) length << 32;
        if (ins == 164) {
            card.block(64 * card.state(11) & 64, head | (long) random.nextInt(3) << 48, 7);
        } else if (ins == 176) {
            card.block(64 * card.state(11) & 64, head, 5);
        } else {
            card.block((64 * card.state(11) & 64) + 32, head, 5);
            card.block(64 * card.state(11) & 64, random.nextInt(5) == 0 ? 1L << 24 : 0L, length);
        }
    }

    private static boolean holds(TornCard card) {
        int sum = 0;
        for (int k = 0; k < 36 && card.reply(k) >= 0; k++) {
            sum ^= card.reply(k);
        }
        boolean greeting = card.reply(0) == 59;
        boolean off = card.state(0) == 0;
        return (greeting || sum == 0) && (!off || card.reply(0) == -1)
            && card.state(1) >= 1 && card.state(1) <= 8 && card.state(2) >= 0 && card.state(2) <= 3
            && (off || card.state(4) == 0) && card.state(14) <= 40 && card.state(15) <= 26;
    }
}
