/** Boundary cases of the terms OCTETS, FILES, RIGHTS, SECRET and TRIES, and of an object's 512 calls. */
final class FilesBoundaries {
    private static final String CALLS = "An object is used for at most 512 calls after it has been made; what later calls answer is"
        + " free.";

    private FilesBoundaries() {
    }

    @Of(in = "What it is", says = CALLS)
    static void call512IsAnsweredStill() {
        Reader x = Cards.on();
        for (int call = 2; call < 512; call++) {
            x.block(call % 2 == 0 ? 0 : 64, Cards.ASK, 4);
        }
        Due.is("call 512: COMMANDS done", x.state(7), 510);
    }

    @Of(in = "What it is", says = CALLS)
    static void call512AfterAsManyWritingsAsCanBe() {
        Reader x = new Reader();
        x.file(0, 1, 3, 0, 0);
        x.on();
        x.block(0, Reader.word(0, 164, 0, 0, 2, 0, 1), 7);
        for (int call = 4; call < 512; call++) {
            x.block(call % 2 == 0 ? 64 : 0, Reader.word(0, 214, 0, 0, 3, 1, 2, 3), 8);
        }
        Due.is("call 512: WRITINGS of 508 CHANGES of 3 OCTETS", x.state(5), 508 * 9);
    }

    @Of(in = "Terms", says = "OCTETS are 0..255.")
    static void leastAndGreatestOctetsAreKept() {
        Reader x = Cards.withFile(5);
        x.change(0, 0, 127, 128, 254, 255);
        Due.are("stored", x.storedOctets(1, 5), 0, 127, 128, 254, 255);
        Due.hex("READ", x.read(0, 5), 0x9000);
        Due.are("what was READ", x.data, 0, 127, 128, 254, 255);
    }

    @Of(in = "Terms", says = "OCTETS are 0..255.")
    static void octetsOfAWordBelow0AreNotBelow0() {
        Reader x = Cards.withFile(3);
        Due.is("CHANGE with the highest OCTET of w 255", x.block(0, Reader.word(0, 214, 0, 0, 3, 128, 254, 255), 8), 6);
        Due.are("stored", x.storedOctets(1, 3), 128, 254, 255);
    }

    @Of(in = "Terms", says = "The card is OFF (at first) or ON.")
    static void offAtFirst() {
        Reader x = new Reader();
        Due.is("at first", x.state(0), 0);
        x.on();
        Due.is("after on", x.state(0), 1);
    }

    @Of(in = "Terms", says = "FILES are numbered from 0 on, at most 8;")
    static void atMostEightFiles() {
        Reader x = new Reader();
        for (int f = 1; f < 8; f++) {
            Due.is("number", x.file(0, 500, 1, 0, 0), f);
        }
        Due.is("a ninth", x.file(0, 500, 1, 0, 0), TornCard.FULL);
        Due.is("FILES", x.state(1), 8);
        Due.is("FILE 7 is there", x.look(7, 0), 500);
        Due.is("FILE 8 is not", x.look(8, 0), TornCard.REFUSED);
    }

    @Of(in = "Terms", says = "FILE 0 is there from the beginning: a DIRECTORY with the NAME 16128.")
    static void file0IsThereInAnEmptyCard() {
        Reader x = new Reader();
        Due.is("NAME", x.look(0, 0), 16128);
        Due.is("no OCTETS", x.look(0, 2), 0);
        Due.is("FILES", x.state(1), 1);
        x.on();
        Due.hex("FIND 3F00", x.command(0, 164, 0, 0, 2, 0x3F, 0), 0x9000);
        Due.is("it is the CURRENT DIRECTORY", x.state(9), 0);
        Due.is("not the CURRENT FILE", x.state(10), -1);
    }

    @Of(in = "Terms", says = "Each other one has a NAME (0..65535),")
    static void leastAndGreatestName() {
        Reader x = new Reader();
        x.file(0, 0, 1, 0, 0);
        x.file(0, 65535, 1, 0, 0);
        Due.is("NAME of FILE 1", x.look(1, 0), 0);
        Due.is("NAME of FILE 2", x.look(2, 0), 65535);
        x.on();
        Due.hex("FIND FFFF", x.find(65535), 0x9000);
        Due.is("CURRENT FILE", x.state(10), 2);
        Due.hex("FIND 0000", x.find(0), 0x9000);
        Due.is("CURRENT FILE", x.state(10), 1);
    }

    @Of(in = "Terms", says = "a DIRECTORY in which it is,")
    static void deepestPlace() {
        Reader x = new Reader();
        for (int f = 1; f < 8; f++) {
            Due.is("in FILE " + (f - 1), x.file(f - 1, 9, 0, 0, 0), f);
        }
        x.on();
        for (int f = 1; f < 8; f++) {
            Due.hex("down", x.find(9), 0x9000);
            Due.is("CURRENT DIRECTORY", x.state(9), f);
        }
        Due.hex("the deepest one is empty", x.find(9), 0x6A82);
        for (int f = 6; f >= 0; f--) {
            Due.hex("up", x.up(), 0x9000);
            Due.is("CURRENT DIRECTORY", x.state(9), f);
        }
    }

    @Of(in = "Terms", says = "and is a DIRECTORY or has 1..24 OCTETS, at first 0,")
    static void leastAndMostOctetsAreZeros() {
        Reader x = new Reader();
        x.file(0, 1, 1, 0, 0);
        x.file(0, 2, 24, 0, 0);
        Due.is("how many of the least", x.look(1, 2), 1);
        Due.is("the only one", x.stored(1, 0), 0);
        Due.is("no second one", x.stored(1, 1), TornCard.REFUSED);
        Due.is("how many of the most", x.look(2, 2), 24);
        Due.are("all of them", x.storedOctets(2, 24), new int[24]);
        Due.is("no 25th", x.stored(2, 24), TornCard.REFUSED);
    }

    /** FILES 1, 2, 3 with the RIGHTS 0, 1, 2 to READ and to CHANGE. */
    private static void rights(String when, Reader x, int... due) {
        for (int right = 0; right < 3; right++) {
            x.find(right + 1);
            Due.hex(when + ": READ with RIGHT " + right, x.read(0, 1), due[right]);
            Due.hex(when + ": CHANGE with RIGHT " + right, x.change(0, 7), due[right]);
            Due.is(when + ": OCTET with RIGHT " + right, x.stored(right + 1, 0), due[right] == 0x9000 ? 7 : 0);
        }
    }

    @Of(in = "Terms", says = "and RIGHTS to READ and to CHANGE it: 0 always, 1 when OPENED, 2 never.")
    static void eachRightBeforeAndAfterOpening() {
        Reader x = new Reader();
        for (int right = 0; right < 3; right++) {
            x.file(0, right + 1, 1, right, right);
        }
        x.on();
        rights("not OPENED", x, 0x9000, 0x6982, 0x6982);
        x.tell(0);
        rights("OPENED", x, 0x9000, 0x9000, 0x6982);
    }

    @Of(in = "Terms", says = "and RIGHTS to READ and to CHANGE it: 0 always, 1 when OPENED, 2 never.")
    static void theTwoRightsAreApart() {
        Reader x = new Reader();
        x.file(0, 1, 1, 0, 2);
        x.file(0, 2, 1, 2, 0);
        x.on();
        x.find(1);
        Due.hex("READ always", x.read(0, 1), 0x9000);
        Due.hex("CHANGE never", x.change(0, 7), 0x6982);
        x.find(2);
        Due.hex("READ never", x.read(0, 1), 0x6982);
        Due.hex("CHANGE always", x.change(0, 7), 0x9000);
    }

    @Of(in = "Terms", says = "The SECRET is an int (four OCTETS, the highest first), at first 0;")
    static void secretAtFirst() {
        Reader x = Cards.on();
        Due.is("SECRET", x.state(3), 0);
        Due.hex("TELL 0", x.tell(0), 0x9000);
    }

    @Of(in = "Terms", says = "The SECRET is an int (four OCTETS, the highest first), at first 0;")
    static void leastAndGreatestSecrets() {
        Reader x = Cards.opened();
        int[][] octets = {{128, 0, 0, 0}, {127, 255, 255, 255}, {255, 255, 255, 255}, {0, 0, 0, 1}, {1, 0, 0, 0}};
        int[] secrets = {Integer.MIN_VALUE, Integer.MAX_VALUE, -1, 1, 16777216};
        for (int k = 0; k < secrets.length; k++) {
            Due.hex("RENEW", x.command(Reader.join(new int[] {0, 36, 0, 0, 4}, octets[k])), 0x9000);
            Due.is("SECRET", x.state(3), secrets[k]);
            Due.hex("TELL", x.command(Reader.join(new int[] {0, 32, 0, 1, 4}, octets[k])), 0x9000);
        }
        Due.hex("the OCTETS the other way round", x.command(0, 32, 0, 1, 4, 0, 0, 0, 1), 0x63C2);
    }

    @Of(in = "Terms", says = "TRIES are 0..3, at first 3.")
    static void triesAtFirst() {
        Due.is("TRIES", new Reader().state(2), 3);
    }

    @Of(in = "Terms", says = "TRIES are 0..3, at first 3.")
    static void triesDoNotGoBelow0() {
        Reader x = Cards.on();
        for (int tries = 2; tries >= 0; tries--) {
            x.tell(1);
            Due.is("TRIES", x.state(2), tries);
        }
        x.tell(1);
        Due.is("one more wrong TELL", x.state(2), 0);
        x.tell(0);
        Due.is("a right TELL", x.state(2), 0);
    }

    @Of(in = "Terms", says = "TRIES are 0..3, at first 3.")
    static void triesDoNotGoAbove3() {
        Reader x = Cards.on();
        x.tell(0);
        x.tell(0);
        Due.is("TRIES", x.state(2), 3);
    }
}
