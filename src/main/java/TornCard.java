/** A card with files behind a block protocol, which may be torn out of its reader at any writing. */
public final class TornCard {
    public static final int REFUSED = -1, FULL = -2, POWER = -3;

    private static final int NONE = -1;
    private static final int OCTET = 255;
    private static final int MOST_AT_ONCE = 8;
    private static final int MOST_WRITINGS_BEFORE_TEAR = 200;

    private static final int NOTHING_WRONG = 0, WRONG_SUM = 1, WRONG_OTHERWISE = 2;

    private static final int MORE_BIT = 32;
    private static final int RESYNC = 192, RESIZE = 193, ABORT = 194;
    /** A reply to S has the PCB of S and this. */
    private static final int S_REPLY = 32;

    private final Link link = new Link();
    private final Worker worker = new Worker();
    private final Memory memory = worker.memory;
    private boolean powered;
    private int commandsDone;

    public TornCard() {
    }

    public int file(int directory, int name, int size, int read, int change) {
        Files files = memory.files;
        if (name < 0 || name > 65535 || !files.isDirectory(directory)) {
            return REFUSED;
        }
        if (size < 0 || size > Files.MOST_OCTETS) {
            return REFUSED;
        }
        if (size > 0 && !(Files.isRight(read) && Files.isRight(change))) {
            return REFUSED;
        }
        if (powered) {
            return POWER;
        }
        return files.add(directory, name, size, read, change);
    }

    public int tear(int n) {
        if (n < NONE || n > MOST_WRITINGS_BEFORE_TEAR) {
            return REFUSED;
        }
        int before = memory.leftBeforeTear;
        memory.leftBeforeTear = n;
        return before;
    }

    public int on() {
        powerDown();
        if (memory.noted && !memory.carryOutNote()) {
            return 0;
        }
        powered = true;
        link.sendGreeting(memory.tries);
        return 1;
    }

    public int off() {
        int was = powered ? 1 : 0;
        powerDown();
        return was;
    }

    public int feed(long w, int n) {
        if (n < 1 || n > MOST_AT_ONCE) {
            return REFUSED;
        }
        if (!powered) {
            return POWER;
        }
        for (int k = 0; k < n && powered; k++) {
            link.take(octetOf(w, k));
            if (link.isWhole()) {
                answerBlock();
            }
        }
        return link.arrived;
    }

    public int block(int pcb, long w, int n) {
        if (pcb < 0 || pcb > OCTET || n < 0 || n > MOST_AT_ONCE) {
            return REFUSED;
        }
        if (!powered) {
            return POWER;
        }
        link.arrived = 0;
        link.take(0);
        link.take(pcb);
        link.take(n);
        for (int k = 0; k < n; k++) {
            link.take(octetOf(w, k));
        }
        link.take(link.sumOfArrived());
        answerBlock();
        return link.replyLength;
    }

    public int reply(int k) {
        return k >= 0 && k < link.replyLength ? link.replied[k] : NONE;
    }

    public int stored(int file, int k) {
        return memory.files.hasOctet(file, k) ? memory.files.octet(file, k) : REFUSED;
    }

    public int state(int what) {
        switch (what) {
            case 0: return powered ? 1 : 0;
            case 1: return memory.files.count;
            case 2: return memory.tries;
            case 3: return memory.secret;
            case 4: return memory.noted ? 1 : 0;
            case 5: return memory.writings;
            case 6: return memory.tears;
            case 7: return commandsDone;
            default: return powered ? stateWhileOn(what) : NONE;
        }
    }

    public int look(int f, int what) {
        Files files = memory.files;
        if (!files.has(f)) {
            return REFUSED;
        }
        switch (what) {
            case 0: return files.names[f];
            case 1: return files.parents[f];
            case 2: return files.sizes[f];
            case 3: return files.readRights[f];
            case 4: return files.changeRights[f];
            default: return REFUSED;
        }
    }

    private int stateWhileOn(int what) {
        switch (what) {
            case 8: return worker.opened ? 1 : 0;
            case 9: return worker.directory;
            case 10: return worker.currentFile;
            case 11: return link.in;
            case 12: return link.out;
            case 13: return link.size;
            case 14: return worker.command.length;
            case 15: return worker.answer.left();
            default: return REFUSED;
        }
    }

    private static int octetOf(long w, int k) {
        return (int) (w >>> (8 * k)) & OCTET;
    }

    /** Clears all that does not last, so that the next time ON starts from the same place. */
    private void powerDown() {
        powered = false;
        link.reset();
        worker.reset();
    }

    private void answerBlock() {
        int wrong = link.wrong();
        if (wrong == NOTHING_WRONG) {
            int pcb = link.pcb();
            switch (pcb) {
                case 0: case 32: case 64: case 96:
                    wrong = takeInformation((pcb >> 6) & 1, (pcb & MORE_BIT) != 0);
                    break;
                case 128: case 129: case 130: case 144: case 145: case 146:
                    wrong = takeReady((pcb >> 4) & 1);
                    break;
                case RESYNC: case RESIZE: case ABORT:
                    wrong = takeSupervision(pcb);
                    break;
                default:
                    wrong = WRONG_OTHERWISE;
            }
        }
        if (wrong != NOTHING_WRONG) {
            link.sendReady(wrong);
        }
        link.arrived = 0;
    }

    private int takeInformation(int n, boolean more) {
        if (n != link.in) {
            return WRONG_OTHERWISE;
        }
        link.in ^= 1;
        worker.answer.clear();
        for (int k = 0; k < link.infLength(); k++) {
            worker.command.add(link.inf(k));
        }
        if (more) {
            link.sendReady(NOTHING_WRONG);
            return NOTHING_WRONG;
        }
        int status = worker.perform();
        if (status == Worker.TORN) {
            powerDown();
        } else {
            worker.conclude(status);
            commandsDone++;
            link.sendPiece(worker.answer);
        }
        return NOTHING_WRONG;
    }

    private int takeReady(int n) {
        if (link.infLength() != 0) {
            return WRONG_OTHERWISE;
        }
        if (n == link.out && worker.answer.left() > 0) {
            link.sendPiece(worker.answer);
        } else if (n != link.out && link.repeatLength > 0) {
            link.sendAgain();
        } else {
            link.sendReady(NOTHING_WRONG);
        }
        return NOTHING_WRONG;
    }

    private int takeSupervision(int pcb) {
        if (link.infLength() != (pcb == RESIZE ? 1 : 0)) {
            return WRONG_OTHERWISE;
        }
        if (pcb == RESIZE) {
            return takeSize(link.inf(0));
        }
        worker.forgetExchange();
        if (pcb == RESYNC) {
            link.resync();
        }
        link.sendSupervision(pcb + S_REPLY);
        return NOTHING_WRONG;
    }

    private int takeSize(int size) {
        if (size < 1 || size > Link.MOST_INF) {
            return WRONG_OTHERWISE;
        }
        link.size = size;
        link.sendSize();
        return NOTHING_WRONG;
    }

    /** The FILES: their table and their OCTETS. */
    private static final class Files {
        static final int MOST_FILES = 8;
        static final int MOST_OCTETS = 24;
        static final int ROOT_NAME = 16128;
        static final int ALWAYS = 0, WHEN_OPENED = 1, NEVER = 2;

        private final int[] names = new int[MOST_FILES];
        private final int[] parents = new int[MOST_FILES];
        private final int[] sizes = new int[MOST_FILES];
        private final int[] readRights = new int[MOST_FILES];
        private final int[] changeRights = new int[MOST_FILES];
        private final int[] octets = new int[MOST_FILES * MOST_OCTETS];
        private int count = 1;

        Files() {
            names[0] = ROOT_NAME;
            parents[0] = NONE;
        }

        static boolean isRight(int right) {
            return right >= ALWAYS && right <= NEVER;
        }

        boolean has(int f) {
            return f >= 0 && f < count;
        }

        boolean isDirectory(int f) {
            return has(f) && sizes[f] == 0;
        }

        boolean hasOctet(int f, int k) {
            return f >= 0 && f < count && k >= 0 && k < sizes[f];
        }

        int octet(int f, int k) {
            return hasOctet(f, k) ? octets[f * MOST_OCTETS + k] : 0;
        }

        void put(int f, int k, int octet) {
            int at = f * MOST_OCTETS + k;
            if (at >= 0 && at < octets.length) {
                octets[at] = octet;
            }
        }

        int add(int directory, int name, int size, int read, int change) {
            if (count >= MOST_FILES) {
                return FULL;
            }
            names[count] = name;
            parents[count] = directory;
            sizes[count] = size;
            readRights[count] = size > 0 ? read : 0;
            changeRights[count] = size > 0 ? change : 0;
            return count++;
        }

        /** FILE 0 is found from everywhere, so it goes before one of the same NAME in the DIRECTORY. */
        int find(int directory, int name) {
            if (name == ROOT_NAME) {
                return 0;
            }
            for (int f = 1; f < count; f++) {
                if (parents[f] == directory && names[f] == name) {
                    return f;
                }
            }
            return NONE;
        }

        boolean mayRead(int f, boolean opened) {
            return has(f) && allows(readRights[f], opened);
        }

        boolean mayChange(int f, boolean opened) {
            return has(f) && allows(changeRights[f], opened);
        }

        private static boolean allows(int right, boolean opened) {
            return right == ALWAYS || right == WHEN_OPENED && opened;
        }
    }

    /** What lasts, the WRITINGS that alone change it on a card that is ON, and the TEAR that ends them. */
    private static final class Memory {
        static final int MOST_TRIES = 3;
        /** The WRITINGS of a NOTE beside one for each of its OCTETS. */
        static final int NOTE_HEAD = 2;

        private final Files files = new Files();
        private final int[] noteOctets = new int[Files.MOST_OCTETS];
        private int noteFile;
        private int noteFrom;
        private int noteLength;
        private boolean noted;
        private int secret;
        private int tries = MOST_TRIES;
        private int writings;
        private int tears;
        private int leftBeforeTear = NONE;

        /** Each WRITING asks here first: false means that the card was torn and it must not be done. */
        boolean mayWrite() {
            if (leftBeforeTear == 0) {
                leftBeforeTear = NONE;
                tears++;
                return false;
            }
            if (leftBeforeTear > 0) {
                leftBeforeTear--;
            }
            writings++;
            return true;
        }

        /** A NOTE that is half made counts for nothing, so it is put down only after its last WRITING. */
        boolean writeNote(int f, int from, Command command) {
            int length = Math.min(command.dataLength, noteOctets.length);
            for (int k = 0; k < length + NOTE_HEAD; k++) {
                if (!mayWrite()) {
                    return false;
                }
            }
            noteFile = f;
            noteFrom = from;
            noteLength = length;
            for (int k = 0; k < length; k++) {
                noteOctets[k] = command.data(k);
            }
            noted = true;
            return true;
        }

        /** Always from the first OCTET on, as nothing lasting tells how far an earlier try came. */
        boolean carryOutNote() {
            for (int k = 0; k < noteLength; k++) {
                if (!mayWrite()) {
                    return false;
                }
                files.put(noteFile, noteFrom + k, noteOctets[k]);
            }
            if (!mayWrite()) {
                return false;
            }
            noted = false;
            return true;
        }
    }

    /** The OCTETS of a COMMAND as they gather, and what they say once they are all there. */
    private static final class Command {
        static final int MOST = 40;
        static final int HEAD = 4;
        static final int MOST_DATA = 32;
        static final int EXPECTED_FOR_0 = 32;

        private final int[] octets = new int[MOST];
        private int length;
        private boolean tooLong;
        private int dataLength;
        private int expected;

        void clear() {
            length = 0;
            tooLong = false;
        }

        void add(int octet) {
            if (length < MOST) {
                octets[length++] = octet;
            } else {
                tooLong = true;
            }
        }

        /** Finds DATA and EXPECTED; false if the OCTETS have none of the forms of a COMMAND. */
        boolean parse() {
            dataLength = 0;
            expected = NONE;
            if (tooLong || length < HEAD) {
                return false;
            }
            if (length > HEAD + 1) {
                dataLength = octets[HEAD];
            }
            int end = dataLength > 0 ? HEAD + 1 + dataLength : HEAD;
            if (dataLength > MOST_DATA || length < end || length > end + 1) {
                return false;
            }
            if (length > end) {
                expected = octets[end] == 0 ? EXPECTED_FOR_0 : octets[end];
            }
            return true;
        }

        int octetClass() {
            return octets[0];
        }

        int instruction() {
            return octets[1];
        }

        int a() {
            return octets[2];
        }

        int b() {
            return octets[3];
        }

        int place() {
            return a() << 8 | b();
        }

        int data(int k) {
            return k >= 0 && k < MOST_DATA ? octets[HEAD + 1 + k] : 0;
        }

        int dataAsName() {
            return data(0) << 8 | data(1);
        }

        int dataAsSecret() {
            return data(0) << 24 | data(1) << 16 | data(2) << 8 | data(3);
        }
    }

    /** The OCTETS of an ANSWER, and how many of them were sent. */
    private static final class Answer {
        static final int STATUS_LENGTH = 2;

        private final int[] octets = new int[Files.MOST_OCTETS + STATUS_LENGTH];
        private int length;
        private int sent;

        void clear() {
            length = 0;
            sent = 0;
        }

        void add(int octet) {
            if (length < octets.length) {
                octets[length++] = octet;
            }
        }

        int left() {
            return length - sent;
        }

        int next() {
            return sent < length ? octets[sent++] : 0;
        }
    }

    /** Does COMMANDS, with what it knows only while the card is ON. */
    private static final class Worker {
        private static final int FIND = 164, READ = 176, CHANGE = 214, TELL = 32, RENEW = 36;

        private static final int BY_NAME = 0, UPWARD = 3;
        private static final int NAME_LENGTH = 2;
        private static final int SECRET_LENGTH = 4;
        private static final int TELL_B = 1;

        private static final int DONE = 0x9000;
        private static final int FEWER = 0x6282;
        private static final int TRIES_LEFT = 0x63C0;
        private static final int BAD_LENGTH = 0x6700;
        private static final int NOT_ALLOWED = 0x6982;
        private static final int NO_TRIES = 0x6983;
        private static final int NO_CURRENT_FILE = 0x6986;
        private static final int NOT_FOUND = 0x6A82;
        private static final int BEYOND_END = 0x6A84;
        private static final int BAD_A_OR_B = 0x6A86;
        private static final int BAD_PLACE = 0x6B00;
        private static final int BAD_INSTRUCTION = 0x6D00;
        private static final int BAD_CLASS = 0x6E00;
        /** No STATUS: the card was torn. */
        static final int TORN = -1;

        private final Memory memory = new Memory();
        private final Command command = new Command();
        private final Answer answer = new Answer();
        private boolean opened;
        private int directory;
        private int currentFile = NONE;

        void reset() {
            opened = false;
            directory = 0;
            currentFile = NONE;
            forgetExchange();
        }

        void forgetExchange() {
            command.clear();
            answer.clear();
        }

        /** The STATUS, or TORN. */
        int perform() {
            if (!command.parse()) {
                return BAD_LENGTH;
            }
            if (command.octetClass() != 0) {
                return BAD_CLASS;
            }
            switch (command.instruction()) {
                case FIND: return find();
                case READ: return read();
                case CHANGE: return change();
                case TELL: return tell();
                case RENEW: return renew();
                default: return BAD_INSTRUCTION;
            }
        }

        void conclude(int status) {
            command.clear();
            answer.add(status >> 8);
            answer.add(status & OCTET);
        }

        private int find() {
            boolean byName = command.a() == BY_NAME;
            if (!byName && command.a() != UPWARD || command.b() != 0) {
                return BAD_A_OR_B;
            }
            if (command.dataLength != (byName ? NAME_LENGTH : 0)) {
                return BAD_LENGTH;
            }
            Files files = memory.files;
            int found = byName ? files.find(directory, command.dataAsName()) : parentOfDirectory();
            if (found == NONE) {
                return NOT_FOUND;
            }
            if (files.isDirectory(found)) {
                directory = found;
                currentFile = NONE;
            } else {
                currentFile = found;
            }
            return DONE;
        }

        private int parentOfDirectory() {
            return memory.files.has(directory) ? memory.files.parents[directory] : NONE;
        }

        /** What READ and CHANGE test alike: DONE if nothing stands against them. */
        private int testPlace(int from, boolean allowed) {
            if (currentFile == NONE) {
                return NO_CURRENT_FILE;
            }
            if (!allowed) {
                return NOT_ALLOWED;
            }
            return memory.files.hasOctet(currentFile, from) ? DONE : BAD_PLACE;
        }

        private int read() {
            if (command.dataLength > 0 || command.expected == NONE) {
                return BAD_LENGTH;
            }
            int from = command.place();
            int tested = testPlace(from, memory.files.mayRead(currentFile, opened));
            if (tested != DONE) {
                return tested;
            }
            int there = memory.files.sizes[currentFile] - from;
            int count = Math.min(there, command.expected);
            for (int k = 0; k < count; k++) {
                answer.add(memory.files.octet(currentFile, from + k));
            }
            return there < command.expected ? FEWER : DONE;
        }

        private int change() {
            if (command.dataLength == 0 || command.expected != NONE) {
                return BAD_LENGTH;
            }
            int from = command.place();
            int tested = testPlace(from, memory.files.mayChange(currentFile, opened));
            if (tested != DONE) {
                return tested;
            }
            if (!memory.files.hasOctet(currentFile, from + command.dataLength - 1)) {
                return BEYOND_END;
            }
            return memory.writeNote(currentFile, from, command) && memory.carryOutNote() ? DONE : TORN;
        }

        private int tell() {
            if (command.a() != 0 || command.b() != TELL_B) {
                return BAD_A_OR_B;
            }
            boolean asksOnly = command.dataLength == 0;
            if (!asksOnly && command.dataLength != SECRET_LENGTH || command.expected != NONE) {
                return BAD_LENGTH;
            }
            if (asksOnly && opened) {
                return DONE;
            }
            if (memory.tries == 0) {
                return NO_TRIES;
            }
            return asksOnly ? TRIES_LEFT + memory.tries : compareSecret(command.dataAsSecret());
        }

        /** The try is taken before the look, so that a TEAR cannot save it. */
        private int compareSecret(int told) {
            if (!memory.mayWrite()) {
                return TORN;
            }
            memory.tries--;
            if (told != memory.secret) {
                opened = false;
                return TRIES_LEFT + memory.tries;
            }
            if (!memory.mayWrite()) {
                return TORN;
            }
            memory.tries = Memory.MOST_TRIES;
            opened = true;
            return DONE;
        }

        private int renew() {
            if (command.a() != 0 || command.b() != 0) {
                return BAD_A_OR_B;
            }
            if (command.dataLength != SECRET_LENGTH || command.expected != NONE) {
                return BAD_LENGTH;
            }
            if (!opened) {
                return NOT_ALLOWED;
            }
            if (!memory.mayWrite()) {
                return TORN;
            }
            memory.secret = command.dataAsSecret();
            return DONE;
        }
    }

    /** The BLOCK that arrives, the reply, and the numbers that both sides keep. */
    private static final class Link {
        static final int MOST_INF = 32;

        private static final int HEAD = 3;
        private static final int PCB_AT = 1, LENGTH_AT = 2;
        private static final int MOST = HEAD + MOST_INF + 1;
        private static final int READY = 128;

        private final int[] incoming = new int[MOST];
        private int arrived;
        private final int[] replied = new int[MOST];
        private int replyLength;
        /** The latest reply that was I; an S in between overwrites the reply but not this. */
        private final int[] repeat = new int[MOST];
        /** 0 if the latest reply that was I or R was no I. */
        private int repeatLength;
        private int in;
        private int out;
        private int size = MOST_INF;

        void reset() {
            resync();
            size = MOST_INF;
            arrived = 0;
            replyLength = 0;
        }

        void resync() {
            in = 0;
            out = 0;
            repeatLength = 0;
        }

        void take(int octet) {
            if (arrived < MOST) {
                incoming[arrived++] = octet;
            }
        }

        boolean isWhole() {
            return arrived >= HEAD && (isTooLong() || arrived == HEAD + infLength() + 1);
        }

        private boolean isTooLong() {
            return incoming[LENGTH_AT] > MOST_INF;
        }

        int pcb() {
            return incoming[PCB_AT];
        }

        int infLength() {
            return incoming[LENGTH_AT];
        }

        int inf(int k) {
            return k >= 0 && k < MOST_INF ? incoming[HEAD + k] : 0;
        }

        int wrong() {
            if (isTooLong()) {
                return WRONG_OTHERWISE;
            }
            if (sumOfArrived() != 0) {
                return WRONG_SUM;
            }
            return incoming[0] == 0 ? NOTHING_WRONG : WRONG_OTHERWISE;
        }

        int sumOfArrived() {
            return sum(incoming, arrived);
        }

        private static int sum(int[] octets, int length) {
            int sum = 0;
            for (int k = 0; k < length && k < octets.length; k++) {
                sum ^= octets[k];
            }
            return sum;
        }

        void sendGreeting(int tries) {
            replied[0] = 59;
            replied[1] = 1;
            replied[2] = tries;
            replied[3] = MOST_INF;
            replyLength = 4;
        }

        void sendReady(int wrong) {
            begin(READY + 16 * in + wrong);
            finish();
            repeatLength = 0;
        }

        void sendSupervision(int pcb) {
            begin(pcb);
            finish();
        }

        void sendSize() {
            begin(RESIZE + S_REPLY);
            append(size);
            finish();
        }

        void sendPiece(Answer answer) {
            int length = Math.min(size, answer.left());
            begin(64 * out + (length < answer.left() ? MORE_BIT : 0));
            for (int k = 0; k < length; k++) {
                append(answer.next());
            }
            finish();
            out ^= 1;
            System.arraycopy(replied, 0, repeat, 0, replyLength);
            repeatLength = replyLength;
        }

        void sendAgain() {
            System.arraycopy(repeat, 0, replied, 0, repeatLength);
            replyLength = repeatLength;
        }

        private void begin(int pcb) {
            replied[0] = 0;
            replied[PCB_AT] = pcb;
            replied[LENGTH_AT] = 0;
            replyLength = HEAD;
        }

        private void append(int octet) {
            if (replyLength < MOST - 1) {
                replied[replyLength++] = octet;
                replied[LENGTH_AT]++;
            }
        }

        private void finish() {
            replied[replyLength] = sum(replied, replyLength);
            replyLength++;
        }
    }
}
