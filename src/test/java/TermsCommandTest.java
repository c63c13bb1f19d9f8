/** The term COMMAND: its forms, and FIND, READ, CHANGE, TELL and RENEW. Promises 6, 7, 9 and 10 lean on it. */
public final class TermsCommandTest {
    public static void main(String[] args) {
        forms();
        classAndInstruction();
        find();
        findDuplicates();
        findNothing();
        findUpward();
        findOrder();
        read();
        readRights();
        readOrder();
        change();
        changeRights();
        changeOrder();
        tell();
        tellOrder();
        triesRunOut();
        renew();
        Due.end();
    }

    private static void forms() {
        Reader x = new Reader();
        x.on();
        Due.hex("no OCTETS", x.command(), 0x6700);
        Due.hex("3 OCTETS", x.command(0, 32, 0), 0x6700);
        Due.hex("4 OCTETS", x.command(0, 164, 3, 0), 0x6A82);
        Due.hex("EXPECTED", x.command(0, 164, 3, 0, 200), 0x6A82);
        Due.hex("LENGTH 0 and one behind it", x.command(0, 164, 3, 0, 0, 0), 0x6700);
        Due.hex("LENGTH 0 and two behind it", x.command(0, 164, 3, 0, 0, 0, 0), 0x6700);
        Due.hex("LENGTH 2 and one OCTET", x.command(0, 164, 0, 0, 2, 63), 0x6700);
        Due.hex("LENGTH 2 and two", x.command(0, 164, 0, 0, 2, 63, 0), 0x9000);
        Due.hex("LENGTH 2, two and EXPECTED", x.command(0, 164, 0, 0, 2, 63, 0, 9), 0x9000);
        Due.hex("LENGTH 2 and four", x.command(0, 164, 0, 0, 2, 63, 0, 9, 9), 0x6700);
        int[] head = {0, 214, 0, 0};
        Reader y = new Reader();
        y.on();
        Due.hex("32 DATA", y.command(Reader.join(Reader.join(head, 32), new int[32])), 0x6986);
        Due.hex("33 DATA", y.command(Reader.join(Reader.join(head, 33), new int[33])), 0x6700);
        Due.hex("LENGTH 34, 35 behind it: 40 OCTETS", y.command(Reader.join(Reader.join(head, 34), new int[35])), 0x6700);
        Due.hex("32 DATA and one short", y.command(Reader.join(Reader.join(head, 32), new int[31])), 0x6700);
        Due.hex("32 DATA and two more", y.command(Reader.join(Reader.join(head, 32), new int[34])), 0x6700);
        Due.hex("32 DATA and EXPECTED: INS", y.command(Reader.join(new int[] {0, 1, 0, 0, 32}, new int[33])), 0x6D00);
    }

    private static void classAndInstruction() {
        Reader x = new Reader();
        x.on();
        Due.hex("CLASS 1", x.command(1, 32, 0, 1), 0x6E00);
        Due.hex("CLASS 255 goes before INS", x.command(255, 1, 0, 1), 0x6E00);
        Due.hex("a bad form goes before CLASS", x.command(1, 32, 0), 0x6700);
        for (int ins : new int[] {0, 31, 33, 37, 163, 165, 177, 213, 215, 255}) {
            Due.hex("INS " + ins, x.command(0, ins, 0, 1), 0x6D00);
        }
    }

    /** FILE 1 with OCTETS, 2 a DIRECTORY with 3 (OCTETS) and 4 (a DIRECTORY with 5) in it. */
    private static Reader tree() {
        Reader x = new Reader();
        x.file(0, 0x0102, 6, 0, 0);
        x.file(0, 0xFFFE, 0, 0, 0);
        x.file(2, 0x0102, 8, 0, 0);
        x.file(2, 0x0304, 0, 0, 0);
        x.file(4, 0x0506, 3, 0, 0);
        x.on();
        return x;
    }

    private static void at(String call, Reader x, int directory, int file) {
        Due.is(call + ": CURRENT DIRECTORY", x.state(9), directory);
        Due.is(call + ": CURRENT FILE", x.state(10), file);
    }

    private static void find() {
        Reader x = tree();
        Due.hex("0102", x.find(0x0102), 0x9000);
        at("0102", x, 0, 1);
        Due.hex("not here", x.find(0x0304), 0x6A82);
        at("not here", x, 0, 1);
        Due.hex("octets the other way round", x.find(0x0201), 0x6A82);
        Due.hex("FFFE", x.find(0xFFFE), 0x9000);
        at("FFFE", x, 2, -1);
        Due.hex("a DIRECTORY is not in itself", x.find(0xFFFE), 0x6A82);
        Due.hex("0102 in FFFE", x.find(0x0102), 0x9000);
        at("0102 in FFFE", x, 2, 3);
        Due.hex("0304", x.find(0x0304), 0x9000);
        at("0304", x, 4, -1);
        Due.hex("0506", x.find(0x0506), 0x9000);
        at("0506", x, 4, 5);
        Due.hex("FILE 0 from anywhere", x.find(16128), 0x9000);
        at("FILE 0", x, 0, -1);
        x.find(0x0102);
        Due.hex("FILE 0 from itself", x.find(16128), 0x9000);
        at("FILE 0", x, 0, -1);
    }

    private static void findDuplicates() {
        Reader x = new Reader();
        x.file(0, 16128, 5, 0, 0);
        x.file(0, 7, 0, 0, 0);
        x.file(2, 8, 1, 0, 0);
        x.file(0, 8, 2, 0, 0);
        x.file(0, 8, 0, 0, 0);
        x.file(0, 0, 4, 0, 0);
        x.on();
        x.find(16128);
        at("FILE 0 goes before another of its NAME", x, 0, -1);
        x.find(8);
        at("the least number in the CURRENT DIRECTORY", x, 0, 4);
        x.find(0);
        at("NAME 0", x, 0, 6);
    }

    private static void findNothing() {
        Reader x = new Reader();
        x.file(0, 7, 1, 0, 0);
        x.on();
        Due.hex("NAME 0 where no FILE has it", x.find(0), 0x6A82);
        at("as it was", x, 0, -1);
        x.off();
        for (int f = 2; f < 8; f++) {
            x.file(0, f, 1, 0, 0);
        }
        x.on();
        Due.hex("none of 8", x.find(99), 0x6A82);
        Due.hex("a NAME that the first and the last of 8 have", x.find(7), 0x9000);
        at("the least number of that NAME", x, 0, 1);
        Due.hex("the sixth", x.find(6), 0x9000);
        at("the sixth", x, 0, 6);
    }

    private static void findUpward() {
        Reader x = tree();
        Due.hex("up from FILE 0", x.up(), 0x6A82);
        x.find(0x0102);
        Due.hex("up from FILE 0 with a FILE", x.up(), 0x6A82);
        at("as it was", x, 0, 1);
        x.find(0xFFFE);
        x.find(0x0304);
        x.find(0x0506);
        Due.hex("up", x.up(), 0x9000);
        at("up", x, 2, -1);
        Due.hex("up with EXPECTED", x.command(0, 164, 3, 0, 0), 0x9000);
        at("up again", x, 0, -1);
    }

    private static void findOrder() {
        Reader x = tree();
        Due.hex("A 1", x.command(0, 164, 1, 0, 2, 1, 2), 0x6A86);
        Due.hex("A 2", x.command(0, 164, 2, 0), 0x6A86);
        Due.hex("A 4", x.command(0, 164, 4, 0), 0x6A86);
        Due.hex("B 1", x.command(0, 164, 0, 1, 2, 1, 2), 0x6A86);
        Due.hex("A 3, B 255", x.command(0, 164, 3, 255), 0x6A86);
        Due.hex("6A86 before 6700", x.command(0, 164, 0, 1), 0x6A86);
        Due.hex("A 0 without DATA", x.command(0, 164, 0, 0), 0x6700);
        Due.hex("A 0 with EXPECTED alone", x.command(0, 164, 0, 0, 2), 0x6700);
        Due.hex("A 0 with 1 DATA", x.command(0, 164, 0, 0, 1, 1), 0x6700);
        Due.hex("A 0 with 3 DATA", x.command(0, 164, 0, 0, 3, 1, 2, 3), 0x6700);
        Due.hex("A 3 with DATA", x.command(0, 164, 3, 0, 2, 1, 2), 0x6700);
        at("as it was", x, 0, -1);
        Due.is("no WRITINGS", x.state(5), 0);
    }

    private static void read() {
        Reader x = new Reader();
        x.file(0, 1, 24, 0, 0);
        x.on();
        x.find(1);
        x.change(0, Reader.row(240, 24));
        Due.hex("all", x.read(0, 24), 0x9000);
        Due.are("all", x.data, Reader.row(240, 24));
        Due.hex("one more than there are", x.read(0, 25), 0x6282);
        Due.are("those that are there", x.data, Reader.row(240, 24));
        Due.hex("0 is 32", x.read(0, 0), 0x6282);
        Due.are("those that are there", x.data, Reader.row(240, 24));
        Due.hex("255", x.read(20, 255), 0x6282);
        Due.are("from 20 on", x.data, 4, 5, 6, 7);
        Due.hex("1 from 23", x.read(23, 1), 0x9000);
        Due.are("the last one", x.data, 7);
        Due.hex("from the middle", x.read(5, 3), 0x9000);
        Due.are("from 5 on", x.data, 245, 246, 247);
        Due.hex("from 24", x.read(24, 1), 0x6B00);
        Due.are("nothing is read", x.data);
        Due.hex("from 256", x.read(256, 1), 0x6B00);
        Due.hex("from 65535", x.read(65535, 1), 0x6B00);
    }

    private static void readRights() {
        int[][] statusBefore = {{0, 0x9000}, {1, 0x6982}, {2, 0x6982}};
        int[] statusOpened = {0x9000, 0x9000, 0x6982};
        Reader x = new Reader();
        for (int right = 0; right < 3; right++) {
            x.file(0, right + 1, 2, right, 2 - right);
        }
        x.on();
        for (int[] due : statusBefore) {
            x.find(due[0] + 1);
            Due.hex("RIGHT " + due[0], x.read(0, 2), due[1]);
        }
        x.tell(0);
        for (int right = 0; right < 3; right++) {
            x.find(right + 1);
            Due.hex("RIGHT " + right + ", OPENED", x.read(0, 2), statusOpened[right]);
        }
        x.tell(1);
        x.find(2);
        Due.hex("RIGHT 1, not OPENED any more", x.read(0, 2), 0x6982);
    }

    private static void readOrder() {
        Reader x = new Reader();
        x.file(0, 1, 2, 2, 0);
        x.file(0, 2, 2, 0, 0);
        x.on();
        Due.hex("no EXPECTED before no FILE", x.command(0, 176, 0, 0), 0x6700);
        Due.hex("DATA", x.command(0, 176, 0, 0, 1, 1), 0x6700);
        Due.hex("DATA and EXPECTED", x.command(0, 176, 0, 0, 1, 1, 1), 0x6700);
        Due.hex("no CURRENT FILE", x.read(9, 1), 0x6986);
        x.find(1);
        Due.hex("RIGHT before place", x.read(9, 1), 0x6982);
        x.find(2);
        Due.hex("place", x.read(2, 1), 0x6B00);
        x.find(16128);
        Due.hex("no CURRENT FILE after a DIRECTORY", x.read(0, 1), 0x6986);
    }

    private static void change() {
        Reader x = new Reader();
        x.file(0, 1, 24, 0, 0);
        x.on();
        x.find(1);
        Due.hex("all", x.change(0, Reader.row(1, 24)), 0x9000);
        Due.is("2 n + 3 WRITINGS", x.state(5), 51);
        Due.is("no NOTE", x.state(4), 0);
        Due.are("no DATA in the ANSWER", x.data);
        Due.hex("the last one", x.change(23, 255), 0x9000);
        Due.is("5 WRITINGS", x.state(5), 56);
        Due.hex("two from 22", x.change(22, 8, 9), 0x9000);
        Due.hex("two from 23", x.change(23, 7, 7), 0x6A84);
        Due.hex("25 from 0", x.change(0, new int[25]), 0x6A84);
        Due.hex("32 from 0", x.change(0, new int[32]), 0x6A84);
        Due.hex("one from 24", x.change(24, 7), 0x6B00);
        Due.hex("one from 256", x.change(256, 7), 0x6B00);
        Due.is("those made no WRITINGS", x.state(5), 63);
        Due.are("OCTETS", x.storedOctets(1, 24), Reader.join(Reader.row(1, 22), 8, 9));
    }

    private static void changeRights() {
        int[] before = {0x9000, 0x6982, 0x6982};
        int[] opened = {0x9000, 0x9000, 0x6982};
        Reader x = new Reader();
        for (int right = 0; right < 3; right++) {
            x.file(0, right + 1, 2, 2 - right, right);
        }
        x.on();
        for (int right = 0; right < 3; right++) {
            x.find(right + 1);
            Due.hex("RIGHT " + right, x.change(0, 5), before[right]);
            Due.is("OCTET", x.stored(right + 1, 0), right == 0 ? 5 : 0);
        }
        x.tell(0);
        for (int right = 0; right < 3; right++) {
            x.find(right + 1);
            Due.hex("RIGHT " + right + ", OPENED", x.change(1, 6), opened[right]);
            Due.is("OCTET", x.stored(right + 1, 1), right < 2 ? 6 : 0);
        }
    }

    private static void changeOrder() {
        Reader x = new Reader();
        x.file(0, 1, 2, 0, 2);
        x.file(0, 2, 2, 0, 0);
        x.on();
        Due.hex("no DATA before no FILE", x.command(0, 214, 0, 0), 0x6700);
        Due.hex("EXPECTED alone", x.command(0, 214, 0, 0, 1), 0x6700);
        Due.hex("DATA and EXPECTED", x.command(0, 214, 0, 0, 1, 1, 1), 0x6700);
        Due.hex("no CURRENT FILE", x.change(0, 1), 0x6986);
        x.find(1);
        Due.hex("RIGHT before place", x.change(9, 1), 0x6982);
        x.find(2);
        Due.hex("place before end", x.change(2, 1, 2, 3), 0x6B00);
        Due.hex("end", x.change(1, 1, 2), 0x6A84);
        Due.is("no WRITINGS", x.state(5), 0);
    }

    private static void tell() {
        Reader x = new Reader();
        x.on();
        Due.hex("ask", x.ask(), 0x63C3);
        Due.is("asking writes nothing", x.state(5), 0);
        Due.hex("wrong", x.tell(1), 0x63C2);
        Due.is("one WRITING", x.state(5), 1);
        Due.hex("ask", x.ask(), 0x63C2);
        Due.hex("right", x.tell(0), 0x9000);
        Due.is("two WRITINGS more", x.state(5), 3);
        Due.is("TRIES are 3", x.state(2), 3);
        Due.is("OPENED", x.state(8), 1);
        Due.hex("ask when OPENED", x.ask(), 0x9000);
        Due.hex("right again", x.tell(0), 0x9000);
        Due.hex("wrong when OPENED", x.tell(0x01000000), 0x63C2);
        Due.is("not OPENED", x.state(8), 0);
        Due.hex("ask", x.ask(), 0x63C2);
    }

    private static void tellOrder() {
        Reader x = new Reader();
        x.on();
        Due.hex("A 1", x.command(0, 32, 1, 1), 0x6A86);
        Due.hex("B 0", x.command(0, 32, 0, 0), 0x6A86);
        Due.hex("B 2 before 6700", x.command(0, 32, 0, 2, 1, 1), 0x6A86);
        Due.hex("3 DATA", x.command(0, 32, 0, 1, 3, 0, 0, 0), 0x6700);
        Due.hex("5 DATA", x.command(0, 32, 0, 1, 5, 0, 0, 0, 0, 0), 0x6700);
        Due.hex("EXPECTED alone", x.command(0, 32, 0, 1, 0), 0x6700);
        Due.hex("4 DATA and EXPECTED", x.command(0, 32, 0, 1, 4, 0, 0, 0, 0, 9), 0x6700);
        Due.is("TRIES", x.state(2), 3);
        Due.is("no WRITINGS", x.state(5), 0);
    }

    private static void triesRunOut() {
        Reader x = new Reader();
        x.on();
        Due.hex("wrong", x.tell(1), 0x63C2);
        Due.hex("wrong", x.tell(2), 0x63C1);
        Due.hex("wrong: 63C0, not 6983", x.tell(3), 0x63C0);
        Due.hex("the right one", x.tell(0), 0x6983);
        Due.hex("ask", x.ask(), 0x6983);
        Due.is("WRITINGS", x.state(5), 3);
        Due.is("not OPENED", x.state(8), 0);
        x.on();
        Due.is("TRIES in the reply", x.reply(2), 0);
        Due.hex("after on", x.tell(0), 0x6983);
        Due.hex("6700 before 6983", x.command(0, 32, 0, 1, 1, 0), 0x6700);
    }

    private static void renew() {
        Reader x = new Reader();
        x.on();
        Due.hex("not OPENED", x.renew(5), 0x6982);
        Due.is("SECRET", x.state(3), 0);
        Due.hex("6700 before 6982", x.command(0, 36, 0, 0), 0x6700);
        x.tell(0);
        Due.hex("A 1", x.command(0, 36, 1, 0, 4, 1, 2, 3, 4), 0x6A86);
        Due.hex("B 1 before 6700", x.command(0, 36, 0, 1), 0x6A86);
        Due.hex("3 DATA", x.command(0, 36, 0, 0, 3, 1, 2, 3), 0x6700);
        Due.hex("5 DATA", x.command(0, 36, 0, 0, 5, 1, 2, 3, 4, 5), 0x6700);
        Due.hex("EXPECTED", x.command(0, 36, 0, 0, 4, 1, 2, 3, 4, 5), 0x6700);
        Due.is("WRITINGS of TELL alone", x.state(5), 2);
        Due.hex("the highest OCTET first", x.command(0, 36, 0, 0, 4, 0x91, 0x82, 0x73, 0x64), 0x9000);
        Due.is("SECRET", x.state(3), 0x91827364);
        Due.is("one WRITING", x.state(5), 3);
        Due.is("OPENED still", x.state(8), 1);
        Due.hex("the old one", x.tell(0), 0x63C2);
        Due.hex("the new one", x.tell(0x91827364), 0x9000);
    }
}
