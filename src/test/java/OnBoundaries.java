/** Boundary cases of the term ON: of all that may have been before it nothing is left. */
final class OnBoundaries {
    private static final int WAYS = 3;
    /** Without the TEAR, where no COMMAND can be sent that would be torn. */
    private static final int WAYS_WITHOUT_TEAR = 2;

    private OnBoundaries() {
    }

    /** ON anew: from ON, from OFF, or after a TEAR. */
    private static void onAnew(Reader x, int way) {
        if (way == 1) {
            x.off();
        }
        if (way == 2) {
            x.tear(0);
            x.tell(1);
            Due.is("torn", x.state(0), 0);
        }
        Due.is("on", x.on(), 1);
    }

    @Of(in = "Terms", says = "ON: it is not OPENED, FILE 0 is the CURRENT DIRECTORY, there is no CURRENT FILE;")
    static void closedAndNothingCurrent() {
        for (int way = 0; way < WAYS; way++) {
            Reader x = new Reader();
            x.file(0, 1, 0, 0, 0);
            x.file(1, 2, 1, 0, 0);
            x.on();
            x.find(1);
            x.find(2);
            x.tell(0);
            onAnew(x, way);
            Due.is("OPENED", x.state(8), 0);
            Due.is("CURRENT DIRECTORY", x.state(9), 0);
            Due.is("CURRENT FILE", x.state(10), -1);
        }
    }

    @Of(in = "Terms", says = "IN and OUT (bits) are 0, SIZE is 32,")
    static void inAndOutAndSize() {
        for (int way = 0; way < WAYS; way++) {
            Reader x = Cards.withAnswerInPieces(4, 1);
            Due.is("before: IN", x.state(11), 1);
            Due.is("before: OUT", x.state(12), 1);
            Due.is("before: SIZE", x.state(13), 1);
            onAnew(x, way);
            Due.is("IN", x.state(11), 0);
            Due.is("OUT", x.state(12), 0);
            Due.is("SIZE", x.state(13), 32);
        }
    }

    @Of(in = "Terms", says = "no OCTETS of a block or of a COMMAND are there, and there is no ANSWER;")
    static void noOctetsOfABlock() {
        for (int way = 0; way < WAYS_WITHOUT_TEAR; way++) {
            Reader x = Cards.on();
            Due.is("before", x.feedAll(java.util.Arrays.copyOf(Reader.blockOf(0, new int[32]), 35)), 35);
            onAnew(x, way);
            Due.is("the first OCTET", x.feed(0, 1), 1);
        }
    }

    @Of(in = "Terms", says = "no OCTETS of a block or of a COMMAND are there, and there is no ANSWER;")
    static void noOctetsOfACommand() {
        for (int way = 0; way < WAYS_WITHOUT_TEAR; way++) {
            Reader x = Cards.on();
            x.send(32, new int[32]);
            x.send(96, new int[9]);
            Due.is("before", x.state(14), 40);
            onAnew(x, way);
            Due.is("OCTETS of the COMMAND", x.state(14), 0);
            Due.hex("the next COMMAND is not TOO LONG", x.ask(), 0x63C3);
        }
    }

    @Of(in = "Terms", says = "no OCTETS of a block or of a COMMAND are there, and there is no ANSWER;")
    static void noAnswer() {
        for (int way = 0; way < WAYS; way++) {
            Reader x = Cards.withAnswerInPieces(24, 1);
            Due.is("before", x.state(15), 25);
            onAnew(x, way);
            Due.is("OCTETS of the ANSWER", x.state(15), 0);
            Due.are("no PIECE is sent", x.send(128), Reader.blockOf(128));
        }
    }

    @Of(in = "Terms", says = "the reply is 59, 1, TRIES, 32.")
    static void replyTellsMostAndLeastTries() {
        Reader x = new Reader();
        for (int tries = 3; tries >= 0; tries--) {
            x.on();
            Due.are("reply", x.reply(), 59, 1, tries, 32);
            x.tell(1);
        }
    }

    @Of(in = "Terms", says = "the reply is 59, 1, TRIES, 32.")
    static void replyIsTheSameWithAnotherSizeBefore() {
        Reader x = Cards.on();
        x.send(193, 1);
        x.on();
        Due.are("reply", x.reply(), 59, 1, 3, 32);
    }
}
