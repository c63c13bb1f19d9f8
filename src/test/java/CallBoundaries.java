import java.util.Arrays;

/** Boundary cases of promises 6 to 11: feed, block, reply, stored, state and look. */
final class CallBoundaries {
    private CallBoundaries() {
    }

    private static final String FEED = "n (1..8) OCTETS come, those of w, the lowest first:";

    @Of(in = "Promise 6", says = FEED)
    static void feedOf1And8() {
        Reader x = Cards.on();
        Due.is("1", x.feed(0, 1), 1);
        Due.is("8 more", x.feed(Reader.word(32, 30, 1, 2, 3, 4, 5, 6), 8), 9);
    }

    @Of(in = "Promise 6", says = FEED)
    static void onlyNOctetsOfWTheLowestFirst() {
        Reader x = Cards.on();
        Due.is("the 4 lowest of 8 that are not 0", x.feed(0x77777777C000C000L, 4), 0);
        Due.are("RESYNC", x.reply(), Reader.blockOf(224));
        Due.is("no more came", x.feed(0, 1), 1);
    }

    @Of(in = "Promise 6", says = FEED)
    static void theHighestOctetOfWIs255() {
        Reader x = Cards.withFile(1);
        x.feedAll(Arrays.copyOf(Reader.blockOf(0, 0, 214, 0, 0, 1, 255), 1));
        Due.is("w is below 0", x.feed(Reader.word(0, 6, 0, 214, 0, 0, 1, 255), 8), 9);
        Due.is("the SUM", x.feed(6 ^ 214 ^ 1 ^ 255, 1), 0);
        Due.is("OCTET", x.stored(1, 0), 255);
    }

    private static final String NOT_WHOLE = "how many OCTETS of a BLOCK that is not whole are there then.";

    @Of(in = "Promise 6", says = NOT_WHOLE)
    static void noneBehindAWholeBlock() {
        Reader x = Cards.on();
        Due.is("just whole", x.feed(Reader.word(0, 192, 0, 192), 4), 0);
        Due.is("whole, and one OCTET", x.feed(Reader.word(0, 192, 0, 192, 0), 5), 1);
        Due.is("whole, and whole again", x.feed(Reader.word(192, 0, 192, 0, 194, 0, 194), 7), 0);
        Due.are("the reply to the second one", x.reply(), Reader.blockOf(226));
    }

    @Of(in = "Promise 6", says = NOT_WHOLE)
    static void mostOctetsOfABlockThatIsNotWhole() {
        Reader x = Cards.on();
        int[] block = Reader.blockOf(32, Reader.row(1, 32));
        Due.is("35 of 36", x.feedAll(Arrays.copyOf(block, 35)), 35);
        Due.is("the last one and 7 more", x.feed(Reader.word(block[35], 0, 32, 32, 9, 9, 9, 9), 8), 7);
    }

    @Of(in = "Promise 6", says = NOT_WHOLE)
    static void lengthAbove32InTheMiddle() {
        Reader x = Cards.on();
        Due.is("over with the third; 5 are there", x.feed(Reader.word(0, 0, 33, 0, 0, 9, 9, 9), 8), 5);
        Due.are("reply", x.reply(), Reader.blockOf(130));
        Due.is("two over, two there", x.on() + x.feed(Reader.word(0, 0, 33, 0, 0, 255, 0, 0), 8), 1 + 2);
    }

    @Of(in = "Promise 6", says = "REFUSED if n is not 1..8;")
    static void feedOfTooFewOrTooMany() {
        Reader x = new Reader();
        int[] wrong = {0, 9, -1, Integer.MIN_VALUE, Integer.MAX_VALUE};
        for (int n : wrong) {
            Due.is("OFF: feed of " + n, x.feed(0, n), TornCard.REFUSED);
        }
        x.on();
        x.feed(0, 1);
        for (int n : wrong) {
            Due.is("ON: feed of " + n, x.feed(0, n), TornCard.REFUSED);
        }
        Due.is("no OCTETS came", x.feed(0, 1), 2);
        Due.is("no reply came", x.reply(0), 59);
    }

    @Of(in = "Promise 6", says = "POWER if the card is OFF;")
    static void feedWhileOff() {
        Reader x = new Reader();
        Due.is("at first, 1", x.feed(0, 1), TornCard.POWER);
        Due.is("at first, 8", x.feed(0, 8), TornCard.POWER);
        x.on();
        x.off();
        Due.is("after off", x.feed(0, 1), TornCard.POWER);
        x.on();
        Due.is("nothing is there", x.feed(0, 1), 1);
    }

    @Of(in = "Promise 6", says = "if it is OFF by one of them the others are lost: 0.")
    static void offByTheFirstOf8() {
        Reader x = Cards.on();
        x.tear(0);
        int[] tell = Reader.blockOf(0, 0, 32, 0, 1, 4, 0, 0, 0, 0);
        x.feedAll(Arrays.copyOf(tell, 12));
        Due.is("the last OCTET and 7 more", x.feed(Reader.word(tell[12], 0, 192, 0, 192, 0, 0, 0), 8), 0);
        Due.is("OFF", x.state(0), 0);
        Due.is("no reply", x.reply(0), -1);
        x.on();
        Due.is("the others are lost", x.feed(0, 1), 1);
    }

    @Of(in = "Promise 6", says = "if it is OFF by one of them the others are lost: 0.")
    static void offByTheLastOf8() {
        Reader x = Cards.on();
        x.tear(0);
        int[] tell = Reader.blockOf(0, 0, 32, 0, 1, 4, 0, 0, 0, 0);
        x.feedAll(Arrays.copyOf(tell, 5));
        Due.is("8 OCTETS", x.feed(Reader.word(Arrays.copyOfRange(tell, 5, 13)), 8), 0);
        Due.is("OFF", x.state(0), 0);
        Due.is("the next feed", x.feed(0, 1), TornCard.POWER);
    }

    private static final String WHOLE = "A BLOCK comes as a whole (what there was of another one is lost):";

    @Of(in = "Promise 7", says = WHOLE)
    static void whatThereWasIsLost() {
        for (int there : new int[] {1, 3, 35}) {
            Reader x = Cards.on();
            x.feedAll(Arrays.copyOf(Reader.blockOf(32, Reader.row(1, 32)), there));
            Due.is(there + " were there", x.block(194, 0, 0), 4);
            Due.are("reply", x.reply(), Reader.blockOf(226));
            Due.is("none is there", x.feed(0, 1), 1);
        }
    }

    private static final String BLOCK = "0, pcb, n, the n lowest OCTETS of w, the lowest first, and the SUM that is right:"
        + " how many OCTETS the reply has, 0 if the card is OFF by it.";

    @Of(in = "Promise 7", says = BLOCK)
    static void blockOf0And8() {
        Reader x = Cards.on();
        Due.is("8", x.block(32, Reader.word(0, 36, 0, 0, 4, 1, 2, 3), 8), 4);
        Due.is("they came", x.state(14), 8);
        Due.is("0, whatever w is", x.block(96, -1L, 0), 4);
        Due.is("none came", x.state(14), 8);
        Due.is("1, the lowest of w", x.block(0, 0x5555555555555504L, 1), 6);
        Due.are("4 DATA, but not OPENED", x.reply(), Reader.blockOf(0, 0x69, 0x82));
    }

    @Of(in = "Promise 7", says = BLOCK)
    static void sumIsRightForAnyOctets() {
        Reader x = Cards.withFile(3);
        Due.is("w below 0", x.block(0, Reader.word(0, 214, 0, 0, 3, 128, 127, 255), 8), 6);
        Due.are("OCTETS, the lowest first", x.storedOctets(1, 3), 128, 127, 255);
    }

    @Of(in = "Promise 7", says = BLOCK)
    static void shortestAndLongestReply() {
        Reader x = Cards.withFile(24);
        Due.is("the shortest", x.block(194, 0, 0), 4);
        Due.is("no OCTET behind it", x.reply(4), -1);
        Due.is("the longest", x.block(0, Reader.word(0, 176, 0, 0, 24), 5), 30);
        Due.is("its last OCTET", x.reply(29) >= 0 ? 1 : 0, 1);
        Due.is("no OCTET behind it", x.reply(30), -1);
    }

    @Of(in = "Promise 7", says = BLOCK)
    static void offByABlock() {
        Reader x = Cards.on();
        x.block(32, Reader.word(0, 32, 0, 1, 4, 0, 0, 0), 8);
        x.tear(0);
        Due.is("the last OCTET of TELL", x.block(64, 0, 1), 0);
        Due.is("OFF", x.state(0), 0);
    }

    @Of(in = "Promise 7", says = "REFUSED if pcb is no OCTET or n not 0..8;")
    static void pcbOrLengthTooSmallOrTooLarge() {
        Reader x = new Reader();
        int[][] wrong = {{-1, 0}, {256, 0}, {Integer.MIN_VALUE, 0}, {Integer.MAX_VALUE, 0}, {192, -1}, {192, 9},
            {192, Integer.MIN_VALUE}, {192, Integer.MAX_VALUE}};
        for (int[] w : wrong) {
            Due.is("OFF: PCB " + w[0] + ", n " + w[1], x.block(w[0], 0, w[1]), TornCard.REFUSED);
        }
        x.on();
        x.feed(0, 2);
        for (int[] w : wrong) {
            Due.is("ON: PCB " + w[0] + ", n " + w[1], x.block(w[0], 0, w[1]), TornCard.REFUSED);
        }
        Due.is("what there was of another one is there", x.feed(0, 1), 3);
        Due.is("no reply came", x.reply(0), 59);
        Due.is("PCB 255", x.block(255, 0, 0), 4);
        Due.is("PCB 0", x.block(0, 0, 8), 6);
    }

    @Of(in = "Promise 7", says = "POWER if the card is OFF.")
    static void blockWhileOff() {
        Reader x = new Reader();
        Due.is("at first", x.block(192, 0, 0), TornCard.POWER);
        x.on();
        x.off();
        Due.is("after off", x.block(192, 0, 0), TornCard.POWER);
        x.on();
        x.tear(0);
        x.tell(0);
        Due.is("after a TEAR", x.block(192, 0, 0), TornCard.POWER);
    }

    private static final String REPLY = "OCTET k (0 first) of the latest reply, all of it, the 0 in front and the SUM, too;"
        + " -1 if there is none.";

    @Of(in = "Promise 8", says = REPLY)
    static void replyBeforeItsFirstAndBehindItsLast() {
        Reader x = Cards.on();
        for (int k : new int[] {-1, 4, Integer.MIN_VALUE, Integer.MAX_VALUE}) {
            Due.is("of on: reply(" + k + ")", x.reply(k), -1);
        }
        Due.is("of on: reply(0)", x.reply(0), 59);
        Due.is("of on: reply(3)", x.reply(3), 32);
        x.send(193, 9);
        Due.is("of 193: the 0 in front", x.reply(0), 0);
        Due.is("of 193: the SUM", x.reply(4), 225 ^ 1 ^ 9);
        Due.is("of 193: reply(5)", x.reply(5), -1);
    }

    @Of(in = "Promise 8", says = REPLY)
    static void aShortReplyBehindALongOne() {
        Reader x = Cards.withFile(24);
        x.read(0, 24);
        x.send(192);
        Due.is("reply(3)", x.reply(3), 224);
        for (int k = 4; k < 30; k++) {
            Due.is("reply(" + k + ")", x.reply(k), -1);
        }
    }

    @Of(in = "Promise 8", says = "(A card that is OFF has none.)")
    static void noReplyWhileOff() {
        Reader x = new Reader();
        Due.is("at first", x.reply(0), -1);
        x.on();
        x.off();
        Due.is("after off", x.reply(0), -1);
        x.on();
        x.tear(0);
        x.tell(0);
        Due.is("after a TEAR", x.reply(0), -1);
        Reader y = Cards.tornInChange(1, 3);
        y.tear(0);
        y.on();
        Due.is("torn by on", y.reply(0), -1);
    }

    private static final String STORED = "What lasts: OCTET k of a FILE; REFUSED if there is none.";

    @Of(in = "Promise 9", says = STORED)
    static void firstAndLastOctet() {
        Reader x = Cards.withFile(24);
        Due.is("the first", x.stored(1, 0), 1);
        Due.is("the last", x.stored(1, 23), 24);
        for (int k : new int[] {-1, 24, Integer.MIN_VALUE, Integer.MAX_VALUE}) {
            Due.is("stored(1, " + k + ")", x.stored(1, k), TornCard.REFUSED);
        }
    }

    @Of(in = "Promise 9", says = STORED)
    static void octetsOfNoFileAndOfADirectory() {
        Reader x = Cards.full();
        for (int f : new int[] {-1, 0, 8, Integer.MIN_VALUE, Integer.MAX_VALUE}) {
            Due.is("stored(" + f + ", 0)", x.stored(f, 0), TornCard.REFUSED);
        }
        Due.is("the last FILE", x.stored(7, 0), 0);
        Due.is("behind its end", x.stored(7, 1), TornCard.REFUSED);
        Reader y = new Reader();
        y.file(0, 1, 0, 0, 0);
        Due.is("a DIRECTORY", y.stored(1, 0), TornCard.REFUSED);
        Due.is("a FILE that is not there yet", y.stored(2, 0), TornCard.REFUSED);
    }

    @Of(in = "Promise 9", says = STORED)
    static void storedLooksAtNoRights() {
        Reader x = new Reader();
        x.file(0, 1, 1, 2, 0);
        x.on();
        x.find(1);
        x.change(0, 255);
        Due.is("ON", x.stored(1, 0), 255);
        x.off();
        Due.is("OFF", x.stored(1, 0), 255);
    }

    private static final String LASTING = "What 0: 1 ON, 0 OFF; 1: FILES; 2: TRIES; 3: the SECRET; 4: 1 if there is a NOTE, else 0;"
        + " 5: WRITINGS so far; 6: how often it was torn;";

    @Of(in = "Promise 10", says = LASTING)
    static void leastAndMostOfWhatLasts() {
        Reader x = new Reader();
        Due.are("at first", Arrays.copyOf(Cards.states(x), 7), 0, 1, 3, 0, 0, 0, 0);
        x.file(0, 1, 24, 0, 0);
        for (int f = 2; f < 8; f++) {
            x.file(0, f, 1, 0, 0);
        }
        x.on();
        x.tell(0);
        x.renew(-1);
        x.tell(0);
        x.tell(0);
        x.tell(0);
        x.find(1);
        x.tear(50);
        x.change(0, new int[24]);
        Due.are("at last", Arrays.copyOf(Cards.states(x), 7), 0, 8, 0, -1, 1, 2 + 1 + 3 + 50, 1);
    }

    private static final String COMMANDS = "7: COMMANDS done so far (all of which an ANSWER came).";

    @Of(in = "Promise 10", says = COMMANDS)
    static void commandsThatCountAndThatDoNot() {
        Reader x = Cards.on();
        x.send(0);
        Due.is("an empty one, 6700", x.state(7), 1);
        x.send(96, 0, 32);
        Due.is("a part of one", x.state(7), 1);
        x.send(194);
        Due.is("one that is no more", x.state(7), 1);
        x.send(64, 0, 32, 0, 1);
        Due.is("a WRONG BLOCK", x.state(7), 1);
        x.tear(0);
        x.tell(0);
        Due.is("one that was torn", x.state(7), 1);
        x.on();
        x.ask();
        Due.is("they go on", x.state(7), 2);
    }

    @Of(in = "Promise 10", says = COMMANDS)
    static void anAnswerInManyPiecesIsOneCommand() {
        Reader x = Cards.withAnswerInPieces(4, 1);
        int done = x.state(7);
        x.send(144);
        x.send(128);
        x.send(144);
        x.send(144);
        Due.is("COMMANDS", x.state(7), done);
    }

    private static final String WHILE_ON = "Of a card that is ON (else -1) 8: 1 if OPENED, else 0; 9: the CURRENT DIRECTORY;"
        + " 10: the CURRENT FILE, -1 if none; 11: IN; 12: OUT; 13: SIZE; 14: OCTETS of the COMMAND that are there;"
        + " 15: OCTETS of the ANSWER not sent yet.";

    private static int[] statesWhileOn(Reader x) {
        return Arrays.copyOfRange(Cards.states(x), 8, 16);
    }

    @Of(in = "Promise 10", says = WHILE_ON)
    static void statesWhileOff() {
        int[] none = {-1, -1, -1, -1, -1, -1, -1, -1};
        Reader x = new Reader();
        Due.are("at first", statesWhileOn(x), none);
        x.on();
        Due.are("ON", statesWhileOn(x), 0, 0, -1, 0, 0, 32, 0, 0);
        x.off();
        Due.are("after off", statesWhileOn(x), none);
        x.on();
        x.tear(0);
        x.tell(0);
        Due.are("after a TEAR", statesWhileOn(x), none);
    }

    @Of(in = "Promise 10", says = WHILE_ON)
    static void greatestStatesWhileOn() {
        Reader x = new Reader();
        for (int f = 1; f < 7; f++) {
            x.file(f - 1, 1, 0, 0, 0);
        }
        x.file(6, 1, 24, 0, 0);
        x.on();
        x.tell(0);
        for (int f = 1; f < 8; f++) {
            x.find(1);
        }
        x.send(193, 1);
        x.send(0, 0, 176, 0, 0, 0);
        Due.are("an ANSWER of 26, one sent", statesWhileOn(x), 1, 6, 7, 1, 1, 1, 0, 25);
        x.send(96, new int[32]);
        x.send(32, new int[32]);
        Due.are("a COMMAND of 64", statesWhileOn(x), 1, 6, 7, 1, 1, 1, 40, 0);
    }

    @Of(in = "Promise 10", says = "REFUSED for others.")
    static void stateTooSmallOrTooLarge() {
        Reader x = new Reader();
        for (int turn = 0; turn < 2; turn++) {
            for (int what : new int[] {-1, 16, Integer.MIN_VALUE, Integer.MAX_VALUE}) {
                Due.is("state(" + what + ")", x.state(what), TornCard.REFUSED);
            }
            x.on();
        }
    }

    private static final String LOOK = "Of FILE f what 0: its NAME; 1: the DIRECTORY in which it is, -1 for FILE 0; 2: how many OCTETS"
        + " it has, 0 for a DIRECTORY; 3: RIGHT to READ, 4: to CHANGE, 0 for a DIRECTORY.";

    private static int[] looks(Reader x, int f) {
        int[] looks = new int[5];
        for (int what = 0; what < looks.length; what++) {
            looks[what] = x.look(f, what);
        }
        return looks;
    }

    @Of(in = "Promise 11", says = LOOK)
    static void lookAtFile0AndADirectory() {
        Reader x = new Reader();
        x.file(0, 65535, 0, 2, 2);
        Due.are("FILE 0", looks(x, 0), 16128, -1, 0, 0, 0);
        Due.are("a DIRECTORY", looks(x, 1), 65535, 0, 0, 0, 0);
    }

    @Of(in = "Promise 11", says = LOOK)
    static void lookAtLeastAndGreatest() {
        Reader x = new Reader();
        for (int f = 1; f < 7; f++) {
            x.file(f - 1, 0, 0, 0, 0);
        }
        x.file(6, 65535, 24, 2, 1);
        Due.are("the last FILE", looks(x, 7), 65535, 6, 24, 2, 1);
        Reader y = new Reader();
        y.file(0, 0, 1, 0, 2);
        Due.are("the first FILE", looks(y, 1), 0, 0, 1, 0, 2);
        y.on();
        Due.are("while ON", looks(y, 1), 0, 0, 1, 0, 2);
    }

    @Of(in = "Promise 11", says = "REFUSED for others, or if there is none.")
    static void lookTooSmallOrTooLarge() {
        Reader x = new Reader();
        x.file(0, 5, 3, 1, 1);
        for (int what : new int[] {-1, 5, Integer.MIN_VALUE, Integer.MAX_VALUE}) {
            Due.is("look(0, " + what + ")", x.look(0, what), TornCard.REFUSED);
            Due.is("look(1, " + what + ")", x.look(1, what), TornCard.REFUSED);
        }
        for (int f : new int[] {-1, 2, 7, 8, Integer.MIN_VALUE, Integer.MAX_VALUE}) {
            Due.is("look(" + f + ", 0)", x.look(f, 0), TornCard.REFUSED);
            Due.is("look(" + f + ", 4)", x.look(f, 4), TornCard.REFUSED);
        }
        Due.is("the ninth when there are 8", Cards.full().look(8, 0), TornCard.REFUSED);
    }
}
