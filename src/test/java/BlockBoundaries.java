import java.util.Arrays;

/** Boundary cases of the term BLOCK: how long it is, its SUM, and what is WRONG. */
final class BlockBoundaries {
    private BlockBoundaries() {
    }

    private static final String PARTS = "A BLOCK: 0, a PCB, a LENGTH, so many OCTETS (the INF), and the SUM, which makes"
        + " exclusive or of all 0.";

    @Of(in = "Terms", says = PARTS)
    static void blockWithoutInf() {
        Reader x = Cards.on();
        Due.is("3 OCTETS are not all", x.feedAll(0, 192, 0), 3);
        Due.is("the fourth is the SUM", x.feed(192, 1), 0);
        Due.are("reply", x.reply(), 0, 224, 0, 224);
    }

    @Of(in = "Terms", says = PARTS)
    static void blockWithInfOf32() {
        Reader x = Cards.on();
        int[] block = Reader.blockOf(32, Reader.row(200, 32));
        Due.is("35 OCTETS are not all", x.feedAll(Arrays.copyOf(block, 35)), 35);
        Due.is("the 36th is the SUM", x.feed(block[35], 1), 0);
        Due.are("reply", x.reply(), Reader.blockOf(144));
        Due.is("all 32 came", x.state(14), 32);
    }

    @Of(in = "Terms", says = PARTS)
    static void sumIsOverEachBitOfEachOctet() {
        int[] right = Reader.blockOf(193, 31);
        for (int at : new int[] {0, 1, 3, 4}) {
            for (int bit = 1; bit < 256; bit *= 2) {
                int[] changed = right.clone();
                changed[at] ^= bit;
                Reader x = Cards.on();
                x.feedAll(changed);
                Due.are("bit " + bit + " of OCTET " + at, x.reply(), Reader.blockOf(129));
            }
        }
    }

    @Of(in = "Terms", says = PARTS)
    static void sumIsOverTheLengthToo() {
        Reader x = Cards.on();
        Due.is("LENGTH 1, but the SUM of LENGTH 0", x.feedAll(0, 193, 1, 31, 193 ^ 31), 0);
        Due.are("reply", x.reply(), Reader.blockOf(129));
    }

    @Of(in = "Terms", says = "The OCTETS come one by one; with the last one the card replies by a BLOCK.")
    static void noReplyBeforeTheLastOctet() {
        Reader x = Cards.on();
        int[] block = Reader.blockOf(0, 0, 32, 0, 1);
        for (int k = 0; k < block.length - 1; k++) {
            Due.is("OCTET " + k, x.feed(block[k], 1), k + 1);
            Due.is("the reply of on still", x.reply(0), 59);
        }
        Due.is("the last OCTET", x.feed(block[block.length - 1], 1), 0);
        Due.are("reply", x.reply(), Reader.blockOf(0, 0x63, 0xC3));
    }

    private static final String OVER = "With a LENGTH above 32 the BLOCK is over, and that is its last OCTET.";

    @Of(in = "Terms", says = OVER)
    static void length33And255AreItsLastOctet() {
        for (int length : new int[] {33, 34, 127, 128, 255}) {
            Reader x = Cards.on();
            Due.is("LENGTH " + length, x.feed(Reader.word(0, 32, length), 3), 0);
            Due.are("reply", x.reply(), Reader.blockOf(130));
            Due.is("a BLOCK behind it", x.feed(Reader.word(0, 192, 0, 192), 4), 0);
            Due.are("its reply", x.reply(), Reader.blockOf(224));
        }
    }

    @Of(in = "Terms", says = OVER)
    static void length32IsNotItsLastOctet() {
        Reader x = Cards.on();
        Due.is("LENGTH 32", x.feed(Reader.word(0, 32, 32), 3), 3);
        Due.is("no reply", x.reply(0), 59);
    }

    private static final String WRONG = "What is WRONG: 1: the SUM; 2: (the SUM is right, or did not come) the first OCTET is not 0,"
        + " LENGTH is above 32, or the PCB does not go, as said below.";

    @Of(in = "Terms", says = WRONG)
    static void sumGoesBeforeAllElse() {
        Reader x = Cards.on();
        x.feedAll(1, 255, 0, 255);
        Due.are("first OCTET 1 and PCB 255", x.reply(), Reader.blockOf(129));
        x.feedAll(0, 192, 1, 7, 0);
        Due.are("a LENGTH that does not go", x.reply(), Reader.blockOf(129));
        x.feedAll(0, 64, 0, 65);
        Due.are("I 1 while IN is 0", x.reply(), Reader.blockOf(129));
        x.feedAll(0, 193, 1, 33, 0);
        Due.are("a SIZE of 33", x.reply(), Reader.blockOf(129));
    }

    @Of(in = "Terms", says = WRONG)
    static void firstOctet1And255() {
        for (int first : new int[] {1, 128, 255}) {
            Reader x = Cards.on();
            x.feedAll(first, 192, 0, first ^ 192);
            Due.are("first OCTET " + first, x.reply(), Reader.blockOf(130));
        }
    }

    @Of(in = "Terms", says = WRONG)
    static void lengthAbove32IsNoMatterOfTheSum() {
        Reader x = Cards.on();
        x.feedAll(0, 33, 33);
        Due.are("exclusive or of the three is 0", x.reply(), Reader.blockOf(130));
        x.feedAll(0, 192, 33);
        Due.are("it is not 0", x.reply(), Reader.blockOf(130));
        x.feedAll(9, 192, 255);
        Due.are("the first OCTET is not 0", x.reply(), Reader.blockOf(130));
    }

    @Of(in = "Terms", says = WRONG)
    static void pcbThatDoesNotGo() {
        Reader x = Cards.on();
        x.feedAll(0, 255, 0, 255);
        Due.are("PCB 255", x.reply(), Reader.blockOf(130));
        x.feedAll(0, 1, 0, 1);
        Due.are("PCB 1", x.reply(), Reader.blockOf(130));
    }

    private static final String NOTHING_ELSE = "Then the reply is R IN with 1 or 2, and nothing else changes.";

    /** One BLOCK of each kind that is WRONG while IN is 1. */
    private static final int[][] WRONG_WITH_IN_1 = {{0, 64, 0, 65}, {7, 64, 0, 71}, {0, 64, 33}, {0, 255, 0, 255}, {0, 0, 0, 0},
        {0, 32, 1, 5, 36}, {0, 128, 1, 0, 129}, {0, 131, 0, 131}, {0, 192, 1, 0, 193}, {0, 193, 0, 193}, {0, 193, 1, 0, 192},
        {0, 193, 1, 33, 225}, {0, 194, 1, 0, 195}};

    @Of(in = "Terms", says = NOTHING_ELSE)
    static void replyTellsIn() {
        Reader x = Cards.on();
        x.feedAll(0, 192, 0, 0);
        Due.are("1 with IN 0", x.reply(), Reader.blockOf(129));
        x.feedAll(0, 255, 0, 255);
        Due.are("2 with IN 0", x.reply(), Reader.blockOf(130));
        x.send(32);
        x.feedAll(0, 192, 0, 0);
        Due.are("1 with IN 1", x.reply(), Reader.blockOf(145));
        x.feedAll(0, 255, 0, 255);
        Due.are("2 with IN 1", x.reply(), Reader.blockOf(146));
    }

    @Of(in = "Terms", says = NOTHING_ELSE)
    static void anAnswerInPiecesGoesOn() {
        for (int[] wrong : WRONG_WITH_IN_1) {
            Reader x = Cards.withAnswerInPieces(6, 4);
            int[] before = Cards.states(x);
            Due.is("it is over", x.feedAll(wrong), 0);
            Due.is("it is WRONG", x.reply(1) == 145 || x.reply(1) == 146 ? 1 : 0, 1);
            Due.are("states after " + Arrays.toString(wrong), Cards.states(x), before);
            Due.are("the next PIECE", x.send(144), Reader.blockOf(64, 5, 6, 0x90, 0));
        }
    }

    @Of(in = "Terms", says = NOTHING_ELSE)
    static void aCommandInPiecesGoesOn() {
        for (int[] wrong : WRONG_WITH_IN_1) {
            Reader x = Cards.on();
            x.send(32, 0, 32);
            int[] before = Cards.states(x);
            x.feedAll(wrong);
            Due.are("states after " + Arrays.toString(wrong), Cards.states(x), before);
            Due.are("the rest of the COMMAND", x.send(64, 0, 1), Reader.blockOf(0, 0x63, 0xC3));
        }
    }
}
