/** Promise 6: feed. */
public final class Promise06FeedTest {
    public static void main(String[] args) {
        refusals();
        countsOctets();
        lowestFirst();
        manyBlocksAtOnce();
        lengthAbove32();
        longestBlock();
        offByOneOfThem();
        Due.end();
    }

    private static void refusals() {
        Reader x = new Reader();
        Due.is("OFF", x.feed(0, 1), TornCard.POWER);
        for (int n : new int[] {0, 9, -1, Integer.MIN_VALUE, Integer.MAX_VALUE}) {
            Due.is("OFF: feed of " + n, x.feed(0, n), TornCard.REFUSED);
        }
        x.on();
        x.feed(0, 1);
        for (int n : new int[] {0, 9, -1}) {
            Due.is("ON: feed of " + n, x.feed(0, n), TornCard.REFUSED);
        }
        Due.is("a refused one brings nothing", x.feed(0, 1), 2);
        Due.is("TERMS: POWER", TornCard.POWER, -3);
    }

    private static void countsOctets() {
        Reader x = new Reader();
        x.on();
        int[] block = Reader.blockOf(0, 0, 32, 0, 1);
        for (int k = 0; k < block.length; k++) {
            Due.is("octet " + k, x.feed(block[k], 1), k + 1 < block.length ? k + 1 : 0);
        }
        Due.are("reply", x.reply(), Reader.blockOf(0, 0x63, 0xC3));
    }

    private static void lowestFirst() {
        Reader x = new Reader();
        x.on();
        Due.is("a whole one and 3 OCTETS", x.feed(Reader.word(0, 193, 1, 7, 193 ^ 1 ^ 7, 9, 0, 32), 8), 3);
        Due.are("reply to the whole one", x.reply(), Reader.blockOf(225, 7));
        x.on();
        Due.is("only n OCTETS of w", x.feed(-1L << 16 | 192 << 8, 2), 2);
        Due.is("the rest", x.feed(Reader.word(0, 192), 2), 0);
        Due.are("RESYNC", x.reply(), Reader.blockOf(224));
        x.feed(0, 1);
        Due.is("the highest OCTET of w, 255", x.feed(Reader.word(193, 1, 7, 193 ^ 1 ^ 7, 0, 0, 1, 255), 8), 4);
        Due.are("reply", x.reply(), Reader.blockOf(225, 7));
        Due.is("the SUM with that 255", x.feed(254, 1), 0);
        Due.are("was right", x.reply(), Reader.blockOf(0, 0x67, 0));
    }

    private static void manyBlocksAtOnce() {
        Reader x = new Reader();
        x.on();
        Due.is("two BLOCKS at once", x.feed(Reader.word(0, 192, 0, 192, 0, 194, 0, 194), 8), 0);
        Due.are("the reply to the second one", x.reply(), Reader.blockOf(226));
        Due.is("one of 3 OCTETS, one of 4, one OCTET", x.feed(Reader.word(0, 0, 33, 0, 192, 0, 192, 0), 8), 1);
        Due.are("the reply to the one of 4", x.reply(), Reader.blockOf(224));
        Due.is("the block begun goes on", x.feed(Reader.word(194, 0, 194), 3), 0);
        Due.are("its reply", x.reply(), Reader.blockOf(226));
    }

    private static void lengthAbove32() {
        for (int length : new int[] {33, 128, 255}) {
            Reader x = new Reader();
            x.on();
            Due.is("LENGTH " + length + " ends it", x.feed(Reader.word(0, 0, length), 3), 0);
            Due.are("reply", x.reply(), Reader.blockOf(130));
            Due.is("the next OCTET is a first one", x.feed(0, 1), 1);
        }
    }

    private static void longestBlock() {
        Reader x = new Reader();
        x.on();
        int[] block = Reader.blockOf(32, Reader.row(1, 32));
        Due.is("35 of 36 OCTETS", x.feedAll(java.util.Arrays.copyOf(block, 35)), 35);
        Due.is("the last one", x.feed(block[35], 1), 0);
        Due.are("reply", x.reply(), Reader.blockOf(144));
        Due.is("32 OCTETS of a COMMAND", x.state(14), 32);
    }

    private static void offByOneOfThem() {
        Reader x = new Reader();
        x.on();
        x.tear(0);
        int[] block = Reader.blockOf(0, 0, 32, 0, 1, 4, 0, 0, 0, 0);
        x.feedAll(java.util.Arrays.copyOf(block, 12));
        Due.is("OFF by the first of 8", x.feed(Reader.word(block[12], 1, 2, 3, 4, 5, 6, 7), 8), 0);
        Due.is("OFF", x.state(0), 0);
        Due.is("no reply", x.reply(0), -1);
        Due.is("torn", x.state(6), 1);
        Due.is("feed again", x.feed(0, 1), TornCard.POWER);
        x.on();
        Due.is("the others are lost", x.feed(0, 1), 1);
    }
}
