/** Promise 7: block. */
public final class Promise07BlockTest {
    public static void main(String[] args) {
        refusals();
        lengthOfReply();
        onlyLowestOctets();
        dropsWhatWasThere();
        offByIt();
        Due.end();
    }

    private static void refusals() {
        int[][] wrong = {{-1, 0}, {256, 0}, {0, -1}, {0, 9}, {Integer.MIN_VALUE, 0}, {0, Integer.MAX_VALUE}};
        Reader x = new Reader();
        for (int[] w : wrong) {
            Due.is("OFF: block(" + w[0] + ", 0, " + w[1] + ")", x.block(w[0], 0, w[1]), TornCard.REFUSED);
        }
        Due.is("OFF", x.block(0, 0, 0), TornCard.POWER);
        x.on();
        x.feed(0, 2);
        for (int[] w : wrong) {
            Due.is("ON: block(" + w[0] + ", 0, " + w[1] + ")", x.block(w[0], 0, w[1]), TornCard.REFUSED);
        }
        Due.is("a refused one takes nothing away", x.feed(0, 1), 3);
        Due.is("the reply is as it was", x.reply(0), 59);
    }

    private static void lengthOfReply() {
        Reader x = new Reader();
        x.file(0, 1, 24, 0, 0);
        x.on();
        Due.is("S 192", x.block(192, 0, 0), 4);
        Due.is("S 193", x.block(193, 9, 1), 5);
        Due.is("R", x.block(128, 0, 0), 4);
        Due.is("PCB 255", x.block(255, 0, 0), 4);
        Due.is("its reply", x.reply(1), 130);
        Due.is("I with m", x.block(32, 0, 8), 4);
        Due.is("a LENGTH of 8", x.state(14), 8);
        Due.is("I: 6700", x.block(64, 0, 0), 6);
        x.find(1);
        x.block(193, 32, 1);
        Due.is("READ of all", x.block(64, Reader.word(0, 176, 0, 0, 24), 5), 30);
        x.block(193, 7, 1);
        Due.is("READ in pieces of 7", x.block(0, Reader.word(0, 176, 0, 0, 24), 5), 11);
    }

    private static void onlyLowestOctets() {
        Reader x = new Reader();
        x.on();
        Due.is("what is beyond n does not matter", x.block(193, 0x7755443322110000L | 0xFF05, 1), 5);
        Due.are("reply", x.reply(), Reader.blockOf(225, 5));
        Due.is("w below 0", x.block(192, -1L, 0), 4);
        Due.are("reply", x.reply(), Reader.blockOf(224));
        Due.is("8 OCTETS, the lowest first", x.block(32, Reader.word(0, 214, 0, 0, 3, 255, 254, 253), 8), 4);
        Due.is("8 are there", x.state(14), 8);
        Due.is("done", x.block(64, 0, 0), 6);
        Due.are("well formed, but no CURRENT FILE", x.reply(), Reader.blockOf(0, 0x69, 0x86));
    }

    private static void dropsWhatWasThere() {
        Reader x = new Reader();
        x.on();
        x.feed(Reader.word(7, 7, 7, 7), 4);
        Due.is("another one was begun", x.block(194, 0, 0), 4);
        Due.are("reply", x.reply(), Reader.blockOf(226));
        Due.is("nothing is there then", x.feed(0, 1), 1);
    }

    private static void offByIt() {
        Reader x = new Reader();
        x.on();
        x.block(32, Reader.word(0, 32, 0, 1, 4, 0, 0, 0), 8);
        x.tear(1);
        Due.is("torn", x.block(64, 0, 1), 0);
        Due.is("OFF", x.state(0), 0);
        Due.is("no reply", x.reply(0), -1);
        Due.is("TRIES", x.state(2), 2);
        Due.is("again", x.block(64, 0, 1), TornCard.POWER);
    }
}
