import java.util.Arrays;

/** Boundary cases of a COMMAND's forms, and of FIND, READ and CHANGE. */
final class CommandBoundaries {
    private CommandBoundaries() {
    }

    /** A COMMAND whose form is right but whose INS is none: 6D00 tells that the form was right. */
    private static int[] ofForm(int... behindB) {
        return Reader.join(new int[] {0, 1, 0, 0}, behindB);
    }

    private static int[] lengthAndData(int length, int count) {
        return Reader.join(new int[] {length}, new int[count]);
    }

    @Of(in = "Terms", says = "A COMMAND: CLASS, INS, A, B, and then nothing;")
    static void threeOctetsAndFour() {
        Reader x = Cards.on();
        Due.hex("4 OCTETS", x.command(ofForm()), 0x6D00);
        for (int count = 0; count < 4; count++) {
            Due.hex(count + " OCTETS", x.command(Arrays.copyOf(ofForm(), count)), 0x6700);
        }
    }

    @Of(in = "Terms", says = "or one OCTET, the EXPECTED number (0: 32);")
    static void leastAndGreatestExpected() {
        Reader x = Cards.withFile(24);
        Due.hex("EXPECTED 0 with 24 OCTETS there", x.command(0, 176, 0, 0, 0), 0x6282);
        Due.are("all of them, not none", x.data, Reader.row(1, 24));
        Due.hex("EXPECTED 1", x.command(0, 176, 0, 0, 1), 0x9000);
        Due.are("one", x.data, 1);
        Due.hex("EXPECTED 255", x.command(0, 176, 0, 0, 255), 0x6282);
        Due.are("all of them", x.data, Reader.row(1, 24));
    }

    @Of(in = "Terms", says = "or a LENGTH 1..32 and so many OCTETS, the DATA;")
    static void leastAndGreatestLength() {
        Reader x = Cards.on();
        Due.hex("LENGTH 1 and 1", x.command(ofForm(lengthAndData(1, 1))), 0x6D00);
        Due.hex("LENGTH 32 and 32", x.command(ofForm(lengthAndData(32, 32))), 0x6D00);
        Due.hex("LENGTH 32 and 31", x.command(ofForm(lengthAndData(32, 31))), 0x6700);
        Due.hex("LENGTH 2 and 1", x.command(ofForm(lengthAndData(2, 1))), 0x6700);
    }

    @Of(in = "Terms", says = "or a LENGTH 1..32 and so many OCTETS, the DATA;")
    static void all32DataCount() {
        Reader x = Cards.withFile(24);
        Due.hex("CHANGE of 32", x.change(0, new int[32]), 0x6A84);
        Due.hex("CHANGE of 24", x.change(0, Reader.row(70, 24)), 0x9000);
        Due.are("OCTETS", x.storedOctets(1, 24), Reader.row(70, 24));
    }

    @Of(in = "Terms", says = "or that, and EXPECTED.")
    static void expectedBehindDataAndOneMore() {
        Reader x = Cards.on();
        Due.hex("LENGTH 1, 1 and EXPECTED", x.command(ofForm(lengthAndData(1, 2))), 0x6D00);
        Due.hex("LENGTH 1 and one more than that", x.command(ofForm(lengthAndData(1, 3))), 0x6700);
        Due.hex("LENGTH 32, 32 and EXPECTED", x.command(ofForm(lengthAndData(32, 33))), 0x6D00);
        Due.hex("LENGTH 32 and one more than that", x.command(ofForm(lengthAndData(32, 34))), 0x6700);
    }

    @Of(in = "Terms", says = "The ANSWER is what is read, if anything is, and two OCTETS, the STATUS.")
    static void shortestAndLongestAnswer() {
        Reader x = Cards.withFile(24);
        Due.are("nothing is read", x.send(0, 0, 32, 0, 1), Reader.blockOf(0, 0x63, 0xC3));
        int[] all = Reader.join(Reader.row(1, 24), 0x90, 0);
        Due.are("24 OCTETS are read", x.send(64, 0, 176, 0, 0, 24), Reader.blockOf(64, all));
        Due.are("READ that is not done", x.send(0, 0, 176, 0, 24, 1), Reader.blockOf(0, 0x6B, 0));
    }

    private static final String FORM = "It is in hexadecimal digits: 6700 if the COMMAND is TOO LONG, or not so (also LENGTH 0"
        + " with something behind it, or above 32);";

    @Of(in = "Terms", says = FORM)
    static void tooLongCommand() {
        Reader x = Cards.on();
        Due.hex("41 OCTETS", x.command(ofForm(lengthAndData(32, 36))), 0x6700);
        Due.hex("72 OCTETS", x.command(ofForm(lengthAndData(32, 67))), 0x6700);
    }

    @Of(in = "Terms", says = FORM)
    static void length0WithSomethingBehindIt() {
        Reader x = Cards.on();
        Due.hex("LENGTH 0 and 1", x.command(ofForm(0, 1)), 0x6700);
        Due.hex("LENGTH 0 and 2", x.command(ofForm(0, 1, 1)), 0x6700);
        Due.hex("0 and nothing: EXPECTED", x.command(ofForm(0)), 0x6D00);
    }

    @Of(in = "Terms", says = FORM)
    static void lengthAbove32() {
        Reader x = Cards.on();
        Due.hex("LENGTH 33 and 33", x.command(ofForm(lengthAndData(33, 33))), 0x6700);
        Due.hex("LENGTH 33, 33 and EXPECTED", x.command(ofForm(lengthAndData(33, 34))), 0x6700);
        Due.hex("LENGTH 35 and 35: 40 OCTETS", x.command(ofForm(lengthAndData(35, 35))), 0x6700);
        Due.hex("LENGTH 255 and 35", x.command(ofForm(lengthAndData(255, 35))), 0x6700);
        Due.hex("33 and nothing: EXPECTED", x.command(ofForm(33)), 0x6D00);
    }

    @Of(in = "Terms", says = "else 6E00 if CLASS is not 0;")
    static void class1And255() {
        Reader x = Cards.on();
        for (int octet : new int[] {1, 128, 255}) {
            Due.hex("CLASS " + octet, x.command(octet, 32, 0, 1), 0x6E00);
            Due.hex("CLASS " + octet + " and an INS that is none", x.command(octet, 0, 0, 1), 0x6E00);
            Due.hex("CLASS " + octet + " and 3 OCTETS", x.command(octet, 32, 0), 0x6700);
        }
        Due.hex("CLASS 0", x.command(0, 32, 0, 1), 0x63C3);
    }

    private static boolean isInstruction(int ins) {
        return ins == 164 || ins == 176 || ins == 214 || ins == 32 || ins == 36;
    }

    @Of(in = "Terms", says = "else 6D00 if INS is none of these;")
    static void allOtherInstructions() {
        for (int ins = 0; ins < 256; ins++) {
            Reader x = Cards.on();
            Due.is("INS " + ins + " is none", x.command(0, ins, 9, 9) == 0x6D00 ? 1 : 0, isInstruction(ins) ? 0 : 1);
        }
    }

    @Of(in = "Terms", says = "what is named first there is tested first:")
    static void twoFaultsAtOnce() {
        Reader x = new Reader();
        x.file(0, 1, 2, 2, 2);
        x.file(0, 2, 2, 0, 0);
        x.on();
        Due.hex("FIND: B and DATA", x.command(0, 164, 0, 1, 1, 1), 0x6A86);
        Due.hex("TELL: B and DATA", x.command(0, 32, 0, 0, 1, 1), 0x6A86);
        Due.hex("RENEW: A and DATA", x.command(0, 36, 1, 0), 0x6A86);
        Due.hex("RENEW: DATA and not OPENED", x.command(0, 36, 0, 0), 0x6700);
        Due.hex("READ: no EXPECTED and no FILE", x.command(0, 176, 0, 0), 0x6700);
        Due.hex("READ: no FILE and place", x.read(65535, 1), 0x6986);
        Due.hex("CHANGE: no DATA and no FILE", x.command(0, 214, 0, 0), 0x6700);
        Due.hex("CHANGE: no FILE and place", x.change(65535, 1), 0x6986);
        x.find(1);
        Due.hex("READ: RIGHT and place", x.read(2, 1), 0x6982);
        Due.hex("CHANGE: RIGHT and place", x.change(2, 1), 0x6982);
        x.find(2);
        Due.hex("CHANGE: place and end", x.change(2, 1, 2), 0x6B00);
        x.tell(1);
        x.tell(1);
        x.tell(1);
        Due.hex("TELL: DATA and no TRIES", x.command(0, 32, 0, 1, 1, 1), 0x6700);
        Due.hex("TELL: EXPECTED and no TRIES", x.command(0, 32, 0, 1, 1), 0x6700);
    }

    private static void at(String call, Reader x, int directory, int file) {
        Due.is(call + ": CURRENT DIRECTORY", x.state(9), directory);
        Due.is(call + ": CURRENT FILE", x.state(10), file);
    }

    @Of(in = "Terms", says = "164 FIND: 6A86 if A is not 0 or 3, or B not 0.")
    static void findWithOtherAOrB() {
        Reader x = Cards.on();
        for (int a : new int[] {1, 2, 4, 255}) {
            Due.hex("A " + a, x.command(0, 164, a, 0, 2, 63, 0), 0x6A86);
            Due.hex("A " + a + " without DATA", x.command(0, 164, a, 0), 0x6A86);
        }
        for (int b : new int[] {1, 3, 255}) {
            Due.hex("A 0, B " + b, x.command(0, 164, 0, b, 2, 63, 0), 0x6A86);
            Due.hex("A 3, B " + b, x.command(0, 164, 3, b), 0x6A86);
        }
    }

    @Of(in = "Terms", says = "A 0: 6700 if there are not 2 DATA (the NAME, high OCTET first);")
    static void findWithOneDataTooFewOrTooMany() {
        Reader x = new Reader();
        x.file(0, 0x0100, 1, 0, 0);
        x.on();
        Due.hex("none", x.command(0, 164, 0, 0), 0x6700);
        Due.hex("EXPECTED alone", x.command(0, 164, 0, 0, 2), 0x6700);
        Due.hex("1", x.command(0, 164, 0, 0, 1, 1), 0x6700);
        Due.hex("3", x.command(0, 164, 0, 0, 3, 1, 0, 0), 0x6700);
        Due.hex("32", x.command(Reader.join(new int[] {0, 164, 0, 0, 32, 1}, new int[31])), 0x6700);
        at("none of these", x, 0, -1);
        Due.hex("2, the low OCTET first", x.command(0, 164, 0, 0, 2, 0, 1), 0x6A82);
        Due.hex("2, the high OCTET first", x.command(0, 164, 0, 0, 2, 1, 0), 0x9000);
        at("that", x, 0, 1);
    }

    @Of(in = "Terms", says = "FILE 0 if it has that NAME;")
    static void file0FromTheDeepestPlaceAndBeforeAnother() {
        Reader x = new Reader();
        x.file(0, 5, 0, 0, 0);
        x.file(1, 16128, 1, 0, 0);
        x.file(1, 6, 0, 0, 0);
        x.on();
        x.find(5);
        Due.hex("another of that NAME is in the CURRENT DIRECTORY", x.find(16128), 0x9000);
        at("FILE 0", x, 0, -1);
        x.find(5);
        x.find(6);
        Due.hex("from below", x.find(16128), 0x9000);
        at("FILE 0", x, 0, -1);
    }

    @Of(in = "Terms", says = "else that FILE in the CURRENT DIRECTORY with the least number that has it;")
    static void leastNumberOfThatName() {
        Reader x = new Reader();
        x.file(0, 5, 0, 0, 0);
        x.file(1, 9, 1, 0, 0);
        x.file(0, 9, 1, 0, 0);
        x.file(0, 9, 0, 0, 0);
        x.file(1, 9, 1, 0, 0);
        x.file(0, 8, 1, 0, 0);
        x.file(0, 7, 1, 0, 0);
        x.on();
        x.find(9);
        at("in FILE 0", x, 0, 3);
        x.find(7);
        at("the last of 8", x, 0, 7);
        x.find(5);
        x.find(9);
        at("in FILE 1", x, 1, 2);
    }

    @Of(in = "Terms", says = "6A82 if there is none.")
    static void noFileOfThatName() {
        Reader x = Cards.on();
        Due.hex("FILE 0 is empty", x.find(0), 0x6A82);
        Reader y = Cards.full();
        y.file(0, 9, 1, 0, 0);
        y.on();
        y.find(3);
        for (int name : new int[] {0, 8, 9, 65535}) {
            Due.hex("NAME " + name + " of 8 FILES", y.find(name), 0x6A82);
        }
        at("as it was", y, 0, 3);
    }

    @Of(in = "Terms", says = "6A82 if there is none.")
    static void aFileInAnotherDirectoryIsNotFound() {
        Reader x = new Reader();
        x.file(0, 5, 0, 0, 0);
        x.file(1, 6, 1, 0, 0);
        x.on();
        Due.hex("from above it", x.find(6), 0x6A82);
        x.find(5);
        Due.hex("the DIRECTORY in itself", x.find(5), 0x6A82);
        at("as it was", x, 1, -1);
    }

    @Of(in = "Terms", says = "A 3: 6700 if there are DATA;")
    static void findUpwardWithData() {
        Reader x = new Reader();
        x.file(0, 5, 0, 0, 0);
        x.on();
        x.find(5);
        Due.hex("1", x.command(0, 164, 3, 0, 1, 0), 0x6700);
        Due.hex("2", x.command(0, 164, 3, 0, 2, 63, 0), 0x6700);
        Due.hex("2 and EXPECTED", x.command(0, 164, 3, 0, 2, 63, 0, 0), 0x6700);
        at("as it was", x, 1, -1);
        Due.hex("none", x.command(0, 164, 3, 0), 0x9000);
    }

    @Of(in = "Terms", says = "the DIRECTORY in which the CURRENT DIRECTORY is; 6A82 for FILE 0.")
    static void nothingAboveFile0() {
        Reader x = new Reader();
        x.file(0, 5, 0, 0, 0);
        x.file(0, 6, 1, 0, 0);
        x.on();
        Due.hex("from FILE 0", x.up(), 0x6A82);
        x.find(6);
        Due.hex("from FILE 0 with a CURRENT FILE", x.up(), 0x6A82);
        at("as it was", x, 0, 2);
        x.find(5);
        Due.hex("from FILE 1", x.up(), 0x9000);
        at("up", x, 0, -1);
        Due.hex("and again", x.up(), 0x6A82);
    }

    @Of(in = "Terms", says = "If it is a DIRECTORY it is CURRENT, and there is no CURRENT FILE; else it is the CURRENT FILE. 9000.")
    static void whatBecomesCurrent() {
        Reader x = new Reader();
        x.file(0, 5, 0, 0, 0);
        x.file(1, 6, 1, 0, 0);
        x.file(0, 7, 24, 2, 2);
        x.on();
        Due.hex("a FILE that may not be READ", x.find(7), 0x9000);
        at("it", x, 0, 3);
        Due.hex("FILE 0, the CURRENT DIRECTORY itself", x.find(16128), 0x9000);
        at("no CURRENT FILE", x, 0, -1);
        x.find(7);
        Due.hex("a DIRECTORY", x.find(5), 0x9000);
        at("no CURRENT FILE", x, 1, -1);
        Due.hex("the FILE in it", x.find(6), 0x9000);
        at("it", x, 1, 2);
        Due.hex("up", x.up(), 0x9000);
        at("no CURRENT FILE", x, 0, -1);
    }

    @Of(in = "Terms", says = "(EXPECTED is not looked at.)")
    static void findWithLeastAndGreatestExpected() {
        Reader x = new Reader();
        x.file(0, 5, 0, 0, 0);
        x.on();
        for (int expected : new int[] {0, 1, 255}) {
            Due.hex("by NAME, EXPECTED " + expected, x.command(0, 164, 0, 0, 2, 0, 5, expected), 0x9000);
            at("FILE 1", x, 1, -1);
            Due.hex("upward, EXPECTED " + expected, x.command(0, 164, 3, 0, expected), 0x9000);
            at("FILE 0", x, 0, -1);
        }
    }

    @Of(in = "Terms", says = "176 READ: 6700 if there are DATA, or no EXPECTED;")
    static void readWithDataOrWithoutExpected() {
        Reader x = Cards.withFile(2);
        Due.hex("neither", x.command(0, 176, 0, 0), 0x6700);
        Due.hex("DATA alone", x.command(0, 176, 0, 0, 1, 1), 0x6700);
        Due.hex("DATA and EXPECTED", x.command(0, 176, 0, 0, 1, 1, 1), 0x6700);
        Due.are("nothing is read", x.data);
    }

    @Of(in = "Terms", says = "6986 without a CURRENT FILE;")
    static void readWithoutAFile() {
        Reader x = Cards.withFile(2);
        x.find(16128);
        Due.hex("a DIRECTORY is CURRENT", x.read(0, 1), 0x6986);
        x.on();
        Due.hex("after on", x.read(0, 1), 0x6986);
    }

    @Of(in = "Terms", says = "6982 if it must not be READ now;")
    static void readWhatMustNotBeReadNow() {
        Reader x = new Reader();
        x.file(0, 1, 1, 1, 0);
        x.file(0, 2, 1, 2, 0);
        x.on();
        x.find(1);
        Due.hex("1, not OPENED", x.read(0, 1), 0x6982);
        x.tell(0);
        Due.hex("1, OPENED", x.read(0, 1), 0x9000);
        x.tell(1);
        Due.hex("1, not OPENED any more", x.read(0, 1), 0x6982);
        x.tell(0);
        x.find(2);
        Due.hex("2, OPENED", x.read(0, 1), 0x6982);
        Due.are("nothing is read", x.data);
    }

    private static final String PLACE = "6B00 if 256 A + B is not below its number of OCTETS;";

    @Of(in = "Terms", says = PLACE)
    static void readAtTheEndAndBeyond() {
        for (int size : new int[] {1, 24}) {
            Reader x = Cards.withFile(size);
            Due.hex("the last of " + size, x.read(size - 1, 1), 0x9000);
            Due.are("it", x.data, size);
            Due.hex("behind it", x.read(size, 1), 0x6B00);
            Due.hex("65535", x.read(65535, 1), 0x6B00);
        }
    }

    @Of(in = "Terms", says = PLACE)
    static void readWhereAIsNot0() {
        Reader x = Cards.withFile(24);
        Due.hex("A 1, B 0", x.command(0, 176, 1, 0, 1), 0x6B00);
        Due.hex("A 255, B 5", x.command(0, 176, 255, 5, 1), 0x6B00);
    }

    @Of(in = "Terms", says = "the OCTETS from there on, EXPECTED of them, 9000;")
    static void asManyAsThereAre() {
        Reader x = Cards.withFile(24);
        Due.hex("all 24", x.read(0, 24), 0x9000);
        Due.are("OCTETS", x.data, Reader.row(1, 24));
        Due.hex("the last 3", x.read(21, 3), 0x9000);
        Due.are("OCTETS", x.data, 22, 23, 24);
        Due.hex("the first one", x.read(0, 1), 0x9000);
        Due.are("OCTET", x.data, 1);
    }

    @Of(in = "Terms", says = "if there are fewer, those, and 6282.")
    static void oneFewerThanExpected() {
        Reader x = Cards.withFile(24);
        Due.hex("25", x.read(0, 25), 0x6282);
        Due.are("OCTETS", x.data, Reader.row(1, 24));
        Due.hex("2 from the last one on", x.read(23, 2), 0x6282);
        Due.are("OCTET", x.data, 24);
        Due.hex("0, that is 32, from the last one on", x.read(23, 0), 0x6282);
        Due.are("OCTET", x.data, 24);
    }

    @Of(in = "Terms", says = "214 CHANGE: 6700 without DATA, or with EXPECTED;")
    static void changeWithoutDataOrWithExpected() {
        Reader x = Cards.withFile(2);
        Due.hex("neither", x.command(0, 214, 0, 0), 0x6700);
        Due.hex("EXPECTED alone", x.command(0, 214, 0, 0, 1), 0x6700);
        Due.hex("both", x.command(0, 214, 0, 0, 1, 9, 1), 0x6700);
        Due.are("OCTETS", x.storedOctets(1, 2), 1, 2);
    }

    private static final String LIKEWISE = "6986, 6982 (CHANGED) and 6B00 likewise;";

    @Of(in = "Terms", says = LIKEWISE)
    static void changeWithoutAFile() {
        Reader x = Cards.withFile(2);
        x.find(16128);
        Due.hex("a DIRECTORY is CURRENT", x.change(0, 9), 0x6986);
        Due.are("OCTETS", x.storedOctets(1, 2), 1, 2);
    }

    @Of(in = "Terms", says = LIKEWISE)
    static void changeWhatMustNotBeChangedNow() {
        Reader x = new Reader();
        x.file(0, 1, 1, 0, 1);
        x.file(0, 2, 1, 0, 2);
        x.on();
        x.find(1);
        Due.hex("1, not OPENED", x.change(0, 9), 0x6982);
        Due.is("OCTET", x.stored(1, 0), 0);
        x.tell(0);
        Due.hex("1, OPENED", x.change(0, 9), 0x9000);
        x.find(2);
        Due.hex("2, OPENED", x.change(0, 9), 0x6982);
        Due.is("OCTET", x.stored(2, 0), 0);
    }

    @Of(in = "Terms", says = LIKEWISE)
    static void changeAtTheEndAndBeyond() {
        for (int size : new int[] {1, 24}) {
            Reader x = Cards.withFile(size);
            Due.hex("the last of " + size, x.change(size - 1, 99), 0x9000);
            Due.is("it", x.stored(1, size - 1), 99);
            Due.hex("behind it", x.change(size, 99), 0x6B00);
            Due.hex("A 1, B 0", x.command(0, 214, 1, 0, 1, 99), 0x6B00);
            Due.hex("65535", x.change(65535, 99), 0x6B00);
        }
    }

    @Of(in = "Terms", says = "6A84 if the last OCTET would be beyond its end;")
    static void changeOverTheEnd() {
        Reader x = Cards.withFile(24);
        int before = x.state(5);
        Due.hex("25 from 0", x.change(0, new int[25]), 0x6A84);
        Due.hex("2 from 23", x.change(23, 9, 9), 0x6A84);
        Due.hex("32 from 23", x.change(23, new int[32]), 0x6A84);
        Due.are("OCTETS", x.storedOctets(1, 24), Reader.row(1, 24));
        Due.is("WRITINGS", x.state(5), before);
    }

    @Of(in = "Terms", says = "6A84 if the last OCTET would be beyond its end;")
    static void changeOverTheEndDoesNotReachTheNextFile() {
        Reader x = new Reader();
        x.file(0, 1, 1, 0, 0);
        x.file(0, 2, 24, 0, 0);
        x.on();
        x.find(1);
        Due.hex("2 from 0", x.change(0, 9, 9), 0x6A84);
        Due.hex("32 from 0", x.change(0, Reader.row(9, 32)), 0x6A84);
        Due.is("OCTET", x.stored(1, 0), 0);
        Due.are("OCTETS of the next one", x.storedOctets(2, 24), new int[24]);
    }

    @Of(in = "Terms", says = "then the CHANGE is done: 9000.")
    static void changeUpToTheEnd() {
        Reader x = Cards.withFile(24);
        Due.hex("24 from 0", x.change(0, Reader.row(100, 24)), 0x9000);
        Due.hex("2 from 22", x.change(22, 8, 9), 0x9000);
        Due.hex("1 from 0", x.change(0, 7), 0x9000);
        Due.are("nothing is read", x.data);
        Due.are("OCTETS", x.storedOctets(1, 24), Reader.join(Reader.join(new int[] {7}, Reader.row(101, 21)), 8, 9));
    }
}
