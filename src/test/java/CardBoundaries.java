/** Boundary cases of promises 1 to 5: a new object, file, tear, on and off. */
final class CardBoundaries {
    private CardBoundaries() {
    }

    @Of(in = "Terms", says = "The constants: REFUSED = -1, FULL = -2, POWER = -3: Answers: a number is out of range, or there is no"
        + " such thing; there is no room; the card is ON, or OFF, where it must not be so.")
    static void theThreeAnswersAreApart() {
        Due.is("REFUSED", TornCard.REFUSED, -1);
        Due.is("FULL", TornCard.FULL, -2);
        Due.is("POWER", TornCard.POWER, -3);
        Reader x = Cards.full();
        Due.is("a number is out of range", x.file(0, 65536, 1, 0, 0), -1);
        Due.is("there is no such thing", x.look(8, 0), -1);
        Due.is("there is no room", x.file(0, 1, 1, 0, 0), -2);
        Due.is("OFF, where it must not be", x.feed(0, 1), -3);
        x.on();
        Due.is("ON, where it must not be", x.file(0, 1, 1, 0, 0), -3);
    }

    private static final String NEW = "An OFF card with FILE 0 alone, without a NOTE; no TEAR is to come; no replies.";

    @Of(in = "Promise 1", says = NEW)
    static void aNewCardIsEmpty() {
        Reader x = new Reader();
        Due.are("states", Cards.states(x), 0, 1, 3, 0, 0, 0, 0, 0, -1, -1, -1, -1, -1, -1, -1, -1);
        Due.is("no FILE 1", x.look(1, 0), TornCard.REFUSED);
        Due.is("no reply", x.reply(0), -1);
    }

    @Of(in = "Promise 1", says = NEW)
    static void aNewCardHasNoTearToCome() {
        Due.is("none was to come", new Reader().tear(0), -1);
        Reader x = Cards.on();
        Due.hex("the first WRITINGS are not torn", x.tell(0), 0x9000);
    }

    @Of(in = "Promise 2", says = "A further FILE in a DIRECTORY: its number;")
    static void firstAndLastNumber() {
        Reader x = new Reader();
        Due.is("the first", x.file(0, 1, 0, 0, 0), 1);
        for (int f = 2; f < 7; f++) {
            x.file(1, f, 1, 0, 0);
        }
        Due.is("the last", x.file(1, 7, 1, 0, 0), 7);
        Due.is("in FILE 1", x.look(7, 1), 1);
    }

    @Of(in = "Promise 2", says = "size 0 makes it a DIRECTORY (its RIGHTS are not looked at).")
    static void size0WithRightsOutOfRange() {
        Reader x = new Reader();
        int[][] rights = {{-1, 3}, {3, -1}, {Integer.MIN_VALUE, Integer.MAX_VALUE}, {2, 1}};
        for (int k = 0; k < rights.length; k++) {
            Due.is("a DIRECTORY", x.file(k, 9, 0, rights[k][0], rights[k][1]), k + 1);
            Due.is("no OCTETS", x.look(k + 1, 2), 0);
            Due.is("RIGHT to READ", x.look(k + 1, 3), 0);
            Due.is("RIGHT to CHANGE", x.look(k + 1, 4), 0);
        }
    }

    private static void refused(Reader x, int directory, int name, int size, int read, int change) {
        int before = x.state(1);
        String call = "file(" + directory + ", " + name + ", " + size + ", " + read + ", " + change + ")";
        Due.is(call, x.file(directory, name, size, read, change), TornCard.REFUSED);
        Due.is("FILES after " + call, x.state(1), before);
    }

    @Of(in = "Promise 2", says = "REFUSED if name is not 0..65535,")
    static void nameTooSmallOrTooLarge() {
        Reader x = new Reader();
        refused(x, 0, -1, 1, 0, 0);
        refused(x, 0, 65536, 1, 0, 0);
        refused(x, 0, -1, 0, 0, 0);
        refused(x, 0, 65536, 0, 0, 0);
        refused(x, 0, Integer.MIN_VALUE, 1, 0, 0);
        refused(x, 0, Integer.MAX_VALUE, 1, 0, 0);
        Due.is("name 0", x.file(0, 0, 1, 0, 0), 1);
        Due.is("name 65535", x.file(0, 65535, 1, 0, 0), 2);
    }

    @Of(in = "Promise 2", says = "directory is none,")
    static void directoryTooSmallTooLargeOrWithOctets() {
        Reader x = new Reader();
        x.file(0, 1, 1, 0, 0);
        refused(x, -1, 1, 1, 0, 0);
        refused(x, 1, 1, 1, 0, 0);
        refused(x, 1, 1, 0, 0, 0);
        refused(x, 2, 1, 1, 0, 0);
        refused(x, 7, 1, 1, 0, 0);
        refused(x, 8, 1, 1, 0, 0);
        refused(x, Integer.MIN_VALUE, 1, 1, 0, 0);
        refused(x, Integer.MAX_VALUE, 1, 1, 0, 0);
        Due.is("FILE 0", x.file(0, 1, 0, 0, 0), 2);
        Due.is("the newest", x.file(2, 1, 1, 0, 0), 3);
    }

    @Of(in = "Promise 2", says = "size not 0..24,")
    static void sizeTooSmallOrTooLarge() {
        Reader x = new Reader();
        refused(x, 0, 1, -1, 0, 0);
        refused(x, 0, 1, 25, 0, 0);
        refused(x, 0, 1, Integer.MIN_VALUE, 0, 0);
        refused(x, 0, 1, Integer.MAX_VALUE, 0, 0);
        Due.is("size 0", x.file(0, 1, 0, 0, 0), 1);
        Due.is("size 24", x.file(0, 1, 24, 0, 0), 2);
    }

    @Of(in = "Promise 2", says = "or a right of one that has OCTETS not 0..2;")
    static void rightTooSmallOrTooLarge() {
        Reader x = new Reader();
        for (int size : new int[] {1, 24}) {
            refused(x, 0, 1, size, -1, 0);
            refused(x, 0, 1, size, 3, 0);
            refused(x, 0, 1, size, 0, -1);
            refused(x, 0, 1, size, 0, 3);
        }
        refused(x, 0, 1, 1, Integer.MIN_VALUE, 0);
        refused(x, 0, 1, 1, 0, Integer.MAX_VALUE);
        Due.is("rights 0 and 2", x.file(0, 1, 1, 0, 2), 1);
        Due.is("rights 2 and 0", x.file(0, 1, 1, 2, 0), 2);
    }

    @Of(in = "Promise 2", says = "POWER if the card is ON;")
    static void fileWhileOn() {
        Reader x = Cards.on();
        Due.is("ON", x.file(0, 1, 1, 0, 0), TornCard.POWER);
        Due.is("FILES", x.state(1), 1);
        Due.is("ON still", x.state(0), 1);
        x.off();
        Due.is("OFF", x.file(0, 1, 1, 0, 0), 1);
    }

    @Of(in = "Promise 2", says = "POWER if the card is ON;")
    static void fileAfterATear() {
        Reader x = Cards.on();
        x.tear(0);
        x.tell(0);
        Due.is("OFF by the TEAR", x.file(0, 1, 1, 0, 0), 1);
    }

    @Of(in = "Promise 2", says = "FULL if there are 8.")
    static void fileWhenFull() {
        Reader x = Cards.full();
        Due.is("one with OCTETS", x.file(0, 9, 1, 0, 0), TornCard.FULL);
        Due.is("a DIRECTORY", x.file(0, 9, 0, 0, 0), TornCard.FULL);
        Due.is("FILES", x.state(1), 8);
        Due.is("the last one is as it was", x.look(7, 0), 7);
        Due.is("out of range", x.file(0, 9, 25, 0, 0), TornCard.REFUSED);
    }

    private static final String TEAR = "A TEAR after n (0..200) WRITINGS, instead of one that is to come:";

    @Of(in = "Promise 3", says = TEAR)
    static void tearOf0And200() {
        Reader x = new Reader();
        Due.is("tear(0)", x.tear(0), -1);
        Due.is("tear(200)", x.tear(200), 0);
        Due.is("that is what is to come", x.tear(-1), 200);
    }

    @Of(in = "Promise 3", says = TEAR)
    static void tearInsteadOfAnother() {
        Reader x = Cards.on();
        x.tear(0);
        x.tear(200);
        x.tear(1);
        Due.hex("the first WRITING is not torn", x.tell(1), 0x63C2);
        Due.is("the second is", x.tell(1), Reader.NO_REPLY);
        x.on();
        Due.hex("there was one TEAR only", x.tell(0), 0x9000);
        Due.is("torn", x.state(6), 1);
    }

    private static final String LEFT = "how many would have been left before that, -1 if none was to come.";

    @Of(in = "Promise 3", says = LEFT)
    static void leftDownTo0() {
        Reader x = Cards.on();
        Due.is("none was to come", x.tear(2), -1);
        Due.is("all are left", x.tear(2), 2);
        x.tell(1);
        Due.is("one is left", x.tear(1), 1);
        x.tell(1);
        Due.is("0 are left, but it is to come", x.tear(0), 0);
        Due.is("not torn", x.state(6), 0);
    }

    @Of(in = "Promise 3", says = LEFT)
    static void noneIsLeftAfterItCame() {
        Reader x = Cards.on();
        x.tear(0);
        x.tell(1);
        Due.is("none was to come", x.tear(5), -1);
    }

    @Of(in = "Promise 3", says = "REFUSED for another n;")
    static void tearTooSmallOrTooLarge() {
        Reader x = new Reader();
        x.tear(7);
        for (int n : new int[] {-2, 201, Integer.MIN_VALUE, Integer.MAX_VALUE}) {
            Due.is("tear(" + n + ")", x.tear(n), TornCard.REFUSED);
        }
        Due.is("the one to come is as it was", x.tear(-1), 7);
    }

    @Of(in = "Promise 3", says = "-1 for n: none is to come any more.")
    static void tearIsTakenBack() {
        Reader x = Cards.on();
        x.tear(0);
        Due.is("it was to come", x.tear(-1), 0);
        Due.hex("WRITINGS are done", x.tell(0), 0x9000);
        Due.is("none was to come", x.tear(-1), -1);
        Due.is("torn", x.state(6), 0);
    }

    private static final String ON = "The card is put ON (OFF before, if it was ON): 1, or 0 if it is OFF again by a TEAR.";

    @Of(in = "Promise 4", says = ON)
    static void onWhileOn() {
        Reader x = Cards.opened();
        x.feed(0, 2);
        Due.is("on", x.on(), 1);
        Due.is("ON", x.state(0), 1);
        Due.is("it was OFF between: not OPENED", x.state(8), 0);
        Due.is("no OCTETS of a BLOCK", x.feed(0, 1), 1);
        Due.are("reply", x.reply(), 59, 1, 3, 32);
    }

    @Of(in = "Promise 4", says = ON)
    static void onTornAtEachOfItsWritings() {
        for (int n = 0; n <= 4; n++) {
            Reader x = Cards.tornInChange(3, 5);
            x.tear(n);
            Due.is("on, torn after " + n, x.on(), n < 4 ? 0 : 1);
            Due.is("state", x.state(0), n < 4 ? 0 : 1);
            Due.is("reply", x.reply(0), n < 4 ? -1 : 59);
            Due.is("torn", x.state(6), n < 4 ? 2 : 1);
        }
    }

    @Of(in = "Promise 4", says = "(A TEAR that came is no more.)")
    static void aTearComesOnce() {
        Reader x = Cards.tornInChange(3, 5);
        Due.is("none is to come", x.tear(-1), -1);
        x.tear(0);
        Due.is("on, torn", x.on(), 0);
        Due.is("on once more", x.on(), 1);
        Due.is("torn", x.state(6), 2);
        Due.is("none is to come", x.tear(-1), -1);
    }

    private static final String OFF = "The card is OFF: 1, or 0 if it was so.";

    @Of(in = "Promise 5", says = OFF)
    static void offWhileOff() {
        Reader x = new Reader();
        Due.is("at first", x.off(), 0);
        x.on();
        Due.is("from ON", x.off(), 1);
        Due.is("OFF", x.state(0), 0);
        Due.is("once more", x.off(), 0);
    }

    @Of(in = "Promise 5", says = OFF)
    static void offAfterATear() {
        Reader x = Cards.on();
        x.tear(0);
        x.tell(0);
        Due.is("off", x.off(), 0);
        Due.is("torn", x.state(6), 1);
    }

    @Of(in = "Promise 5", says = OFF)
    static void offIsNoTear() {
        Reader x = Cards.on();
        x.tear(0);
        x.off();
        Due.is("torn", x.state(6), 0);
        Due.is("WRITINGS", x.state(5), 0);
        Due.is("the TEAR is to come still", x.tear(-1), 0);
    }
}
