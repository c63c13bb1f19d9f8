/** Boundary cases of the terms WRITINGS, TEAR, CHANGE and NOTE. */
final class WritingsBoundaries {
    private static final String BY_WRITINGS = "WRITINGS: what lasts changes by WRITINGS alone, one OCTET each (or the TRIES, or the"
        + " NOTE).";

    private WritingsBoundaries() {
    }

    @Of(in = "Terms", says = BY_WRITINGS)
    static void whatOnlyLooksMakesNoWriting() {
        Reader x = Cards.withFile(4);
        int before = x.state(5);
        x.tear(0);
        x.find(16128);
        x.find(1);
        x.up();
        x.read(0, 0);
        x.ask();
        x.send(194);
        x.send(192);
        x.off();
        x.on();
        Due.is("WRITINGS", x.state(5), before);
        Due.is("the TEAR after 0 is to come still", x.tear(-1), 0);
    }

    @Of(in = "Terms", says = BY_WRITINGS)
    static void commandsThatAreNotDoneMakeNoWriting() {
        Reader x = new Reader();
        x.file(0, 1, 2, 0, 2);
        x.file(0, 2, 2, 0, 0);
        x.on();
        x.tear(0);
        x.change(0, 1);
        x.find(1);
        x.change(0, 1);
        x.find(2);
        x.change(2, 1);
        x.change(0, 1, 2, 3);
        x.command(0, 32, 0, 1, 3, 0, 0, 0);
        x.renew(5);
        Due.is("ON", x.state(0), 1);
        Due.is("WRITINGS", x.state(5), 0);
        Due.are("OCTETS", x.storedOctets(2, 2), 0, 0);
        Due.is("SECRET", x.state(3), 0);
        Due.is("the TEAR after 0 is to come still", x.tear(-1), 0);
    }

    @Of(in = "Terms", says = BY_WRITINGS)
    static void oneWritingChangesOneOctet() {
        for (int k = 0; k <= 4; k++) {
            Reader x = Cards.tornInChange(4, 6 + k);
            int[] due = Reader.join(Reader.row(101, k), new int[4 - k]);
            Due.are("torn after the NOTE and " + k, x.storedOctets(1, 4), due);
        }
    }

    @Of(in = "Terms", says = "They are counted.")
    static void countFrom0On() {
        Reader x = new Reader();
        Due.is("at first", x.state(5), 0);
        x.on();
        x.tell(1);
        Due.is("a wrong TELL", x.state(5), 1);
        x.tell(0);
        Due.is("a right TELL", x.state(5), 3);
        x.renew(0);
        Due.is("RENEW", x.state(5), 4);
        x.off();
        Due.is("OFF", x.state(5), 4);
        x.on();
        Due.is("ON again", x.state(5), 4);
    }

    @Of(in = "Terms", says = "They are counted.")
    static void theWritingThatIsNotDoneIsNotCounted() {
        Reader x = Cards.on();
        x.tear(0);
        x.tell(0);
        Due.is("torn before the first one", x.state(5), 0);
        x.on();
        x.tear(1);
        x.tell(0);
        Due.is("torn before the second one", x.state(5), 1);
    }

    @Of(in = "Terms", says = "A TEAR after n: n WRITINGS are done still;")
    static void tearAfter0() {
        Reader x = Cards.on();
        x.tear(0);
        Due.is("TELL", x.tell(1), Reader.NO_REPLY);
        Due.is("TRIES", x.state(2), 3);
        Due.is("torn", x.state(6), 1);
    }

    @Of(in = "Terms", says = "A TEAR after n: n WRITINGS are done still;")
    static void tearAfterAsManyAsACommandMakes() {
        Reader x = Cards.on();
        x.tear(1);
        Due.hex("the WRITING that is done still", x.tell(1), 0x63C2);
        Due.is("not torn", x.state(6), 0);
        Due.is("the next one", x.tell(1), Reader.NO_REPLY);
        Due.is("TRIES", x.state(2), 2);
        Due.is("torn", x.state(6), 1);
    }

    @Of(in = "Terms", says = "A TEAR after n: n WRITINGS are done still;")
    static void tearAfter200() {
        Reader x = new Reader();
        x.file(0, 1, 24, 0, 0);
        x.on();
        x.find(1);
        x.tear(200);
        for (int time = 1; time <= 3; time++) {
            Due.hex("51 WRITINGS", x.change(0, Reader.row(time, 24)), 0x9000);
        }
        Due.is("47 of 51", x.change(0, Reader.row(101, 24)), Reader.NO_REPLY);
        Due.is("WRITINGS", x.state(5), 200);
        Due.are("21 of 24 OCTETS", x.storedOctets(1, 24), Reader.join(Reader.row(101, 21), 24, 25, 26));
    }

    @Of(in = "Terms", says = "with the next one, which is not done, the card is OFF, and all it was doing is over, without a reply.")
    static void offWithoutAReply() {
        Reader x = Cards.on();
        x.tear(1);
        Due.is("TELL of the right SECRET", x.tell(0), Reader.NO_REPLY);
        Due.is("OFF", x.state(0), 0);
        Due.is("no reply", x.reply(0), -1);
        Due.is("TRIES were not made 3", x.state(2), 2);
        Due.is("no COMMAND was done", x.state(7), 0);
        x.on();
        Due.is("not OPENED", x.state(8), 0);
        Due.is("no OCTETS of the COMMAND", x.state(14), 0);
        Due.is("no ANSWER", x.state(15), 0);
    }

    @Of(in = "Terms", says = "What lasts are FILES, SECRET, TRIES and the NOTE.")
    static void whatLastsOverOffAndTear() {
        Reader x = Cards.withFile(3);
        x.tell(0);
        x.renew(-2);
        x.off();
        Due.are("OFF: OCTETS", x.storedOctets(1, 3), 1, 2, 3);
        Due.is("OFF: SECRET", x.state(3), -2);
        x.on();
        x.tell(9);
        x.find(1);
        x.tear(4);
        x.change(1, 50, 60);
        Due.is("torn: TRIES", x.state(2), 2);
        Due.is("torn: SECRET", x.state(3), -2);
        Due.is("torn: FILES", x.state(1), 2);
        Due.is("torn: the NOTE", x.state(4), 1);
        x.off();
        Due.is("off: the NOTE", x.state(4), 1);
        x.on();
        Due.are("ON: OCTETS of the NOTE", x.storedOctets(1, 3), 1, 50, 60);
        Due.is("ON: TRIES", x.state(2), 2);
        Due.is("ON: FILES", x.state(1), 2);
    }

    private static final String NOTE = "A CHANGE of n OCTETS of a FILE: n + 2 WRITINGS make the NOTE of it (until the last one of"
        + " these is done there is none);";

    private static void noteNeedsAllItsWritings(int size) {
        Reader x = Cards.tornInChange(size, size + 1);
        Due.is(size + " OCTETS, torn after n + 1: no NOTE", x.state(4), 0);
        Due.is("on", x.on(), 1);
        Due.is("on makes no WRITINGS", x.state(5), size + 1);
        Due.are("nothing was put there", x.storedOctets(1, size), new int[size]);
        Reader y = Cards.tornInChange(size, size + 2);
        Due.is(size + " OCTETS, torn after n + 2: a NOTE", y.state(4), 1);
        Due.are("nothing was put there", y.storedOctets(1, size), new int[size]);
    }

    @Of(in = "Terms", says = NOTE)
    static void noteOfOneOctet() {
        noteNeedsAllItsWritings(1);
    }

    @Of(in = "Terms", says = NOTE)
    static void noteOf24Octets() {
        noteNeedsAllItsWritings(24);
    }

    @Of(in = "Terms", says = NOTE)
    static void tornBeforeTheFirstWritingOfTheNote() {
        Reader x = Cards.tornInChange(3, 0);
        Due.is("no NOTE", x.state(4), 0);
        Due.is("no WRITINGS", x.state(5), 0);
        Due.is("OFF", x.state(0), 0);
    }

    @Of(in = "Terms", says = "then n WRITINGS put the OCTETS there, in order;")
    static void firstAndLastOctetOf24() {
        int[] done = {0, 1, 23, 24};
        for (int k : done) {
            Reader x = Cards.tornInChange(24, 26 + k);
            int[] due = Reader.join(Reader.row(101, k), new int[24 - k]);
            Due.are("the first " + k, x.storedOctets(1, 24), due);
        }
    }

    @Of(in = "Terms", says = "then n WRITINGS put the OCTETS there, in order;")
    static void octetsInTheMiddleOfAFile() {
        Reader x = Cards.withFile(6);
        x.tear(5);
        x.change(3, 90, 91);
        Due.are("the first of two", x.storedOctets(1, 6), 1, 2, 3, 90, 5, 6);
        Due.is("the other with on", x.on(), 1);
        Due.are("both", x.storedOctets(1, 6), 1, 2, 3, 90, 91, 6);
    }

    private static void noteIsTakenAwayLast(int size) {
        Reader x = Cards.tornInChange(size, 2 * size + 2);
        Due.is(size + " OCTETS, torn after 2 n + 2: a NOTE", x.state(4), 1);
        Due.are("all OCTETS are there", x.storedOctets(1, size), Reader.row(101, size));
        Due.is("OFF", x.state(0), 0);
        Reader y = Cards.tornInChange(size, 2 * size + 3);
        Due.is(size + " OCTETS, with 2 n + 3: no NOTE", y.state(4), 0);
        Due.is("ON", y.state(0), 1);
        Due.is("WRITINGS", y.state(5), 2 * size + 3);
        Due.is("none of them is left", y.tear(-1), 0);
    }

    @Of(in = "Terms", says = "then one takes the NOTE away.")
    static void noteOfOneOctetIsTakenAway() {
        noteIsTakenAwayLast(1);
    }

    @Of(in = "Terms", says = "then one takes the NOTE away.")
    static void noteOf24OctetsIsTakenAway() {
        noteIsTakenAwayLast(24);
    }

    private static final String ON_WITH_NOTE = "When the card is put ON and there is a NOTE, it first puts all OCTETS there anew,"
        + " and takes the NOTE away, by n + 1 WRITINGS.";

    private static void onCarriesOut(int size, int doneBefore) {
        Reader x = Cards.tornInChange(size, size + 2 + doneBefore);
        Due.is("on", x.on(), 1);
        Due.are("all OCTETS", x.storedOctets(1, size), Reader.row(101, size));
        Due.is("no NOTE", x.state(4), 0);
        Due.is("n + 1 WRITINGS more", x.state(5), size + 2 + doneBefore + size + 1);
    }

    @Of(in = "Terms", says = ON_WITH_NOTE)
    static void onWithANoteOfOneOctet() {
        onCarriesOut(1, 0);
    }

    @Of(in = "Terms", says = ON_WITH_NOTE)
    static void onWithANoteOf24Octets() {
        onCarriesOut(24, 0);
    }

    @Of(in = "Terms", says = ON_WITH_NOTE)
    static void allAnewEvenIfAllWereThere() {
        onCarriesOut(1, 1);
        onCarriesOut(24, 24);
    }

    @Of(in = "Terms", says = ON_WITH_NOTE)
    static void tornBeforeTheFirstAndTheLastOfThese() {
        Reader x = Cards.tornInChange(2, 4);
        x.tear(0);
        Due.is("torn before the first: on", x.on(), 0);
        Due.are("nothing was put there", x.storedOctets(1, 2), 0, 0);
        Due.is("a NOTE", x.state(4), 1);
        x.tear(2);
        Due.is("torn before the last: on", x.on(), 0);
        Due.are("all OCTETS", x.storedOctets(1, 2), 101, 102);
        Due.is("still a NOTE", x.state(4), 1);
        x.tear(3);
        Due.is("with n + 1: on", x.on(), 1);
        Due.is("no NOTE", x.state(4), 0);
        Due.is("WRITINGS", x.state(5), 4 + 0 + 2 + 3);
    }

    @Of(in = "Terms", says = ON_WITH_NOTE)
    static void onWithoutANoteMakesNoWritings() {
        Reader x = Cards.tornInChange(2, 4);
        x.on();
        int before = x.state(5);
        x.tear(0);
        Due.is("on", x.on(), 1);
        Due.is("WRITINGS", x.state(5), before);
    }
}
