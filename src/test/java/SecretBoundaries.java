/** Boundary cases of TELL and RENEW. */
final class SecretBoundaries {
    private SecretBoundaries() {
    }

    /** A card whose TRIES are 0. */
    private static Reader withoutTries() {
        Reader x = Cards.on();
        x.tell(1);
        x.tell(1);
        x.tell(1);
        return x;
    }

    @Of(in = "Terms", says = "32 TELL: 6A86 if A is not 0 or B not 1;")
    static void tellWithOtherAOrB() {
        Reader x = Cards.on();
        for (int a : new int[] {1, 255}) {
            Due.hex("A " + a, x.command(0, 32, a, 1), 0x6A86);
            Due.hex("A " + a + " with DATA", x.command(0, 32, a, 1, 4, 0, 0, 0, 0), 0x6A86);
        }
        for (int b : new int[] {0, 2, 255}) {
            Due.hex("B " + b, x.command(0, 32, 0, b), 0x6A86);
            Due.hex("B " + b + " with DATA", x.command(0, 32, 0, b, 4, 0, 0, 0, 0), 0x6A86);
        }
        Due.is("WRITINGS", x.state(5), 0);
    }

    @Of(in = "Terms", says = "6700 if there are DATA, but not 4, or with EXPECTED;")
    static void tellWithOneDataTooFewOrTooMany() {
        Reader x = Cards.on();
        Due.hex("1", x.command(0, 32, 0, 1, 1, 0), 0x6700);
        Due.hex("3", x.command(0, 32, 0, 1, 3, 0, 0, 0), 0x6700);
        Due.hex("5", x.command(0, 32, 0, 1, 5, 0, 0, 0, 0, 0), 0x6700);
        Due.hex("32", x.command(Reader.join(new int[] {0, 32, 0, 1, 32}, new int[32])), 0x6700);
        Due.is("TRIES", x.state(2), 3);
        Due.is("OPENED", x.state(8), 0);
    }

    @Of(in = "Terms", says = "6700 if there are DATA, but not 4, or with EXPECTED;")
    static void tellWithExpected() {
        Reader x = Cards.on();
        Due.hex("EXPECTED 0 alone", x.command(0, 32, 0, 1, 0), 0x6700);
        Due.hex("EXPECTED 4 alone", x.command(0, 32, 0, 1, 4), 0x6700);
        Due.hex("4 DATA and EXPECTED", x.command(0, 32, 0, 1, 4, 0, 0, 0, 0, 0), 0x6700);
        Due.is("WRITINGS", x.state(5), 0);
    }

    private static final String ASK = "without DATA: 9000 if it is OPENED, else 63C0 and the TRIES (6983 if these are 0).";

    @Of(in = "Terms", says = ASK)
    static void askWithMostAndLeastTries() {
        Reader x = Cards.on();
        Due.hex("3", x.ask(), 0x63C3);
        x.tell(1);
        Due.hex("2", x.ask(), 0x63C2);
        x.tell(1);
        Due.hex("1", x.ask(), 0x63C1);
        x.tell(1);
        Due.hex("0", x.ask(), 0x6983);
        Due.is("asking made no WRITINGS", x.state(5), 3);
    }

    @Of(in = "Terms", says = ASK)
    static void askWhenOpened() {
        Reader x = Cards.opened();
        Due.hex("OPENED", x.ask(), 0x9000);
        Due.is("OPENED still", x.state(8), 1);
        Due.is("WRITINGS of the TELL alone", x.state(5), 2);
    }

    @Of(in = "Terms", says = "With DATA: 6983 if TRIES are 0;")
    static void tellWithoutTries() {
        Reader x = withoutTries();
        x.tear(0);
        Due.hex("the right one", x.tell(0), 0x6983);
        Due.hex("a wrong one", x.tell(1), 0x6983);
        Due.is("no WRITING was torn", x.state(6), 0);
        Due.is("OPENED", x.state(8), 0);
        Due.is("TRIES", x.state(2), 0);
        x.on();
        Due.hex("after on", x.tell(0), 0x6983);
    }

    private static final String RIGHT = "else first a WRITING makes TRIES one less, then: if the DATA are the SECRET a WRITING"
        + " makes them 3, it is OPENED: 9000;";

    @Of(in = "Terms", says = RIGHT)
    static void rightWithTheLastTry() {
        Reader x = Cards.on();
        x.tell(1);
        x.tell(1);
        Due.is("TRIES", x.state(2), 1);
        Due.hex("the right one", x.tell(0), 0x9000);
        Due.is("TRIES", x.state(2), 3);
        Due.is("OPENED", x.state(8), 1);
    }

    @Of(in = "Terms", says = RIGHT)
    static void theLastTryTornBeforeItIsGivenBack() {
        Reader x = Cards.on();
        x.tell(1);
        x.tell(1);
        x.tear(1);
        Due.is("the right one", x.tell(0), Reader.NO_REPLY);
        Due.is("TRIES", x.state(2), 0);
        x.on();
        Due.hex("too late", x.tell(0), 0x6983);
    }

    @Of(in = "Terms", says = RIGHT)
    static void tornBeforeTheTryIsTaken() {
        Reader x = Cards.on();
        x.tear(0);
        Due.is("the right one", x.tell(0), Reader.NO_REPLY);
        Due.is("TRIES", x.state(2), 3);
        x.on();
        Due.is("OPENED", x.state(8), 0);
    }

    @Of(in = "Terms", says = RIGHT)
    static void eachOctetOfTheSecretCounts() {
        Reader x = Cards.opened();
        x.renew(0x80FF7F01);
        for (int wrong : new int[] {0x00FF7F01, 0x80FE7F01, 0x80FF7E01, 0x80FF7F00}) {
            Due.hex("one OCTET is another", x.tell(wrong), 0x63C2);
            Due.hex("all are right", x.tell(0x80FF7F01), 0x9000);
        }
    }

    private static final String NOT_RIGHT = "else it is not OPENED: 63C0 and the TRIES.";

    @Of(in = "Terms", says = NOT_RIGHT)
    static void wrongWithTheLastTry() {
        Reader x = Cards.on();
        Due.hex("first", x.tell(1), 0x63C2);
        Due.hex("second", x.tell(1), 0x63C1);
        Due.hex("the last: 63C0, not 6983", x.tell(1), 0x63C0);
    }

    @Of(in = "Terms", says = NOT_RIGHT)
    static void wrongWhenOpened() {
        Reader x = Cards.opened();
        Due.hex("wrong", x.tell(1), 0x63C2);
        Due.is("OPENED", x.state(8), 0);
    }

    @Of(in = "Terms", says = "36 RENEW: 6A86 if A or B is not 0;")
    static void renewWithOtherAOrB() {
        Reader x = Cards.opened();
        for (int octet : new int[] {1, 255}) {
            Due.hex("A " + octet, x.command(0, 36, octet, 0, 4, 1, 2, 3, 4), 0x6A86);
            Due.hex("B " + octet, x.command(0, 36, 0, octet, 4, 1, 2, 3, 4), 0x6A86);
        }
        Due.is("SECRET", x.state(3), 0);
    }

    @Of(in = "Terms", says = "6700 if there are not 4 DATA, or with EXPECTED;")
    static void renewWithOneDataTooFewOrTooMany() {
        Reader x = Cards.opened();
        Due.hex("none", x.command(0, 36, 0, 0), 0x6700);
        Due.hex("EXPECTED alone", x.command(0, 36, 0, 0, 4), 0x6700);
        Due.hex("3", x.command(0, 36, 0, 0, 3, 1, 2, 3), 0x6700);
        Due.hex("5", x.command(0, 36, 0, 0, 5, 1, 2, 3, 4, 5), 0x6700);
        Due.hex("4 and EXPECTED", x.command(0, 36, 0, 0, 4, 1, 2, 3, 4, 0), 0x6700);
        Due.is("SECRET", x.state(3), 0);
    }

    @Of(in = "Terms", says = "6982 if it is not OPENED;")
    static void renewWhenNotOpened() {
        Reader x = Cards.on();
        x.tear(0);
        Due.hex("not OPENED", x.renew(5), 0x6982);
        Due.is("SECRET", x.state(3), 0);
        Due.is("no WRITING was torn", x.state(6), 0);
        x.tear(-1);
        x.tell(0);
        x.tell(1);
        Due.hex("not OPENED any more", x.renew(5), 0x6982);
        Due.is("SECRET", x.state(3), 0);
    }

    private static final String BECOMES = "else the SECRET becomes these, by one WRITING: 9000.";

    @Of(in = "Terms", says = BECOMES)
    static void renewToLeastAndGreatest() {
        Reader x = Cards.opened();
        for (int secret : new int[] {Integer.MIN_VALUE, -1, 0, Integer.MAX_VALUE}) {
            int before = x.state(5);
            Due.hex("RENEW", x.renew(secret), 0x9000);
            Due.is("SECRET", x.state(3), secret);
            Due.is("one WRITING", x.state(5), before + 1);
            Due.is("OPENED still", x.state(8), 1);
        }
    }

    @Of(in = "Terms", says = BECOMES)
    static void renewTorn() {
        Reader x = Cards.opened();
        x.tear(0);
        Due.is("torn before it", x.renew(-1), Reader.NO_REPLY);
        Due.is("no OCTET of it is there", x.state(3), 0);
        Reader y = Cards.opened();
        y.tear(1);
        Due.hex("torn behind it", y.renew(-1), 0x9000);
        Due.is("SECRET", y.state(3), -1);
    }
}
