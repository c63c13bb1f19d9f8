/** The term BLOCK: what is WRONG, and I, R and S. Promises 6, 7, 8 and 10 lean on it. */
public final class TermsBlockTest {
    public static void main(String[] args) {
        wrongSum();
        wrongFirstOctet();
        pcbsThatDoNotGo();
        wrongChangesNothing();
        informationTurns();
        informationWithMore();
        informationEndsAnswer();
        tooLongCommand();
        pieces();
        pieceAfterResize();
        readyRepeats();
        readyRepeatsOverSupervision();
        readyAfterWrong();
        readyWithoutReply();
        resync();
        resize();
        abort();
        Due.end();
    }

    private static void wrongSum() {
        Reader x = new Reader();
        x.on();
        x.feedAll(0, 192, 0, 193);
        Due.are("SUM", x.reply(), Reader.blockOf(129));
        x.feedAll(5, 255, 1, 0, 0);
        Due.are("SUM goes before the rest", x.reply(), Reader.blockOf(129));
        x.send(32, 1);
        x.feedAll(0, 64, 0, 65);
        Due.are("with IN 1", x.reply(), Reader.blockOf(145));
    }

    private static void wrongFirstOctet() {
        Reader x = new Reader();
        x.on();
        x.feedAll(1, 192, 0, 193);
        Due.are("first OCTET 1", x.reply(), Reader.blockOf(130));
        x.feedAll(255, 0, 4, 0, 32, 0, 1, 255 ^ 4 ^ 32 ^ 1);
        Due.are("first OCTET 255", x.reply(), Reader.blockOf(130));
        Due.is("no COMMAND", x.state(7), 0);
        x.feedAll(9, 192, 33);
        Due.are("LENGTH 33 as well", x.reply(), Reader.blockOf(130));
    }

    private static void pcbsThatDoNotGo() {
        for (int pcb = 0; pcb < 256; pcb++) {
            boolean goes = pcb == 0 || pcb == 32 || pcb >= 128 && pcb <= 130 || pcb >= 144 && pcb <= 146
                || pcb == 192 || pcb == 194;
            Reader x = new Reader();
            x.on();
            x.block(pcb, 0, 0);
            Due.is("PCB " + pcb + " is WRONG", x.reply(1) == 130 ? 1 : 0, goes ? 0 : 1);
            boolean goesWith1 = pcb == 0 || pcb == 32 || pcb == 193;
            x = new Reader();
            x.on();
            x.block(pcb, 1, 1);
            Due.is("PCB " + pcb + " with an OCTET is WRONG", x.reply(1) == 130 ? 1 : 0, goesWith1 ? 0 : 1);
        }
        Reader x = new Reader();
        x.on();
        x.block(193, 0x0101, 2);
        Due.is("193 with two OCTETS", x.reply(1), 130);
    }

    private static void wrongChangesNothing() {
        Reader x = Cards.withFile(9);
        x.send(193, 4);
        x.send(0, 0, 176, 0, 0, 9);
        int[] before = new int[16];
        for (int what = 0; what < 16; what++) {
            before[what] = x.state(what);
        }
        x.feedAll(0, 64, 0, 65);
        x.send(0, 1, 2, 3);
        x.send(32, 1, 2, 3);
        x.send(193, 33);
        x.send(194, 1);
        x.send(192, 1);
        x.send(131);
        x.feedAll(0, 192, 34);
        for (int what = 0; what < 16; what++) {
            Due.is("after WRONG ones: state(" + what + ")", x.state(what), before[what]);
        }
        Due.are("the ANSWER goes on", x.send(144), Reader.blockOf(96, 5, 6, 7, 8));
    }

    private static void informationTurns() {
        Reader x = new Reader();
        x.on();
        Due.are("I 1 first", x.send(64, 0, 32, 0, 1), Reader.blockOf(130));
        Due.are("I 0", x.send(0, 0, 32, 0, 1), Reader.blockOf(0, 0x63, 0xC3));
        Due.are("I 0 again", x.send(0, 0, 32, 0, 1), Reader.blockOf(146));
        Due.are("I 1", x.send(64, 0, 32, 0, 1), Reader.blockOf(64, 0x63, 0xC3));
        Due.is("IN", x.state(11), 0);
        Due.is("OUT", x.state(12), 0);
        Due.are("I 0", x.send(0), Reader.blockOf(0, 0x67, 0));
    }

    private static void informationWithMore() {
        Reader x = new Reader();
        x.on();
        Due.are("I 0 m", x.send(32, 0, 32), Reader.blockOf(144));
        Due.are("I 1 m", x.send(96), Reader.blockOf(128));
        Due.is("OUT does not turn", x.state(12), 0);
        Due.are("I 0 m", x.send(32, 0), Reader.blockOf(144));
        Due.is("3 OCTETS", x.state(14), 3);
        Due.are("I 1", x.send(64, 1), Reader.blockOf(0, 0x63, 0xC3));
        Due.is("none then", x.state(14), 0);
    }

    private static void informationEndsAnswer() {
        Reader x = Cards.withFile(9);
        x.send(193, 4);
        x.send(0, 0, 176, 0, 0, 9);
        Due.is("left", x.state(15), 7);
        Due.are("I m", x.send(96, 0), Reader.blockOf(128));
        Due.is("no ANSWER", x.state(15), 0);
        Due.are("R OUT has nothing to send", x.send(144), Reader.blockOf(128));
        Due.are("R of the other number neither, as the latest was R", x.send(128), Reader.blockOf(128));
    }

    private static void tooLongCommand() {
        Reader x = new Reader();
        x.on();
        x.send(32, Reader.row(0, 32));
        x.send(96, Reader.row(0, 8));
        Due.is("40 OCTETS", x.state(14), 40);
        x.send(32);
        Due.is("40 OCTETS still", x.state(14), 40);
        x.send(96, 1);
        Due.is("41: lost", x.state(14), 40);
        Due.are("6700", x.send(0), Reader.blockOf(0, 0x67, 0));
        Due.hex("the next one is not TOO LONG", x.ask(), 0x63C3);
        tooLongIsForgotten(192);
        tooLongIsForgotten(194);
        Reader y = new Reader();
        y.on();
        int[] command = new int[41];
        command[1] = 32;
        command[3] = 1;
        Due.hex("whatever its first OCTETS are", y.command(command), 0x6700);
        command[0] = 1;
        Due.hex("6700 before 6E00", y.command(command), 0x6700);
    }

    private static void tooLongIsForgotten(int pcb) {
        Reader x = new Reader();
        x.on();
        x.send(32, Reader.row(0, 32));
        x.send(96, Reader.row(0, 32));
        x.send(pcb);
        Due.is("after " + pcb + ": OCTETS", x.state(14), 0);
        Due.hex("after " + pcb, x.ask(), 0x63C3);
    }

    private static void pieces() {
        Reader x = Cards.withFile(10);
        x.send(193, 4);
        Due.are("first", x.send(0, 0, 176, 0, 0, 10), Reader.blockOf(32, 1, 2, 3, 4));
        Due.is("OUT", x.state(12), 1);
        Due.are("second, whatever e is", x.send(146), Reader.blockOf(96, 5, 6, 7, 8));
        Due.are("last: no m", x.send(129), Reader.blockOf(0, 9, 10, 0x90, 0));
        Due.is("nothing is left", x.state(15), 0);
        Due.are("no more", x.send(144), Reader.blockOf(144));
        Reader y = Cards.withFile(2);
        y.send(193, 1);
        Due.are("pieces of 1", y.send(0, 0, 176, 0, 0, 2), Reader.blockOf(32, 1));
        Due.are("2", y.send(144), Reader.blockOf(96, 2));
        Due.are("3", y.send(128), Reader.blockOf(32, 0x90));
        Due.are("4", y.send(144), Reader.blockOf(64, 0));
    }

    private static void pieceAfterResize() {
        Reader x = Cards.withFile(10);
        x.send(193, 2);
        Due.are("of 2", x.send(0, 0, 176, 0, 0, 10), Reader.blockOf(32, 1, 2));
        x.send(193, 5);
        Due.are("of 5", x.send(144), Reader.blockOf(96, 3, 4, 5, 6, 7));
        x.send(193, 32);
        Due.are("of what is left", x.send(128), Reader.blockOf(0, 8, 9, 10, 0x90, 0));
    }

    private static void readyRepeats() {
        Reader x = Cards.withFile(10);
        x.send(193, 6);
        int[] first = x.send(0, 0, 176, 0, 0, 10);
        Due.are("first", first, Reader.blockOf(32, 1, 2, 3, 4, 5, 6));
        Due.are("again", x.send(129), first);
        Due.are("and again", x.send(128), first);
        Due.is("OUT is as it was", x.state(12), 1);
        Due.is("so is what is left", x.state(15), 6);
        int[] second = x.send(144);
        Due.are("second", second, Reader.blockOf(64, 7, 8, 9, 10, 0x90, 0));
        Due.are("second again", x.send(144), second);
        Due.are("nothing is left: R", x.send(128), Reader.blockOf(128 + 16));
        Due.are("now the latest was R", x.send(144), Reader.blockOf(128 + 16));
    }

    private static void readyRepeatsOverSupervision() {
        Reader x = Cards.withFile(10);
        x.send(193, 6);
        int[] first = x.send(0, 0, 176, 0, 0, 10);
        Due.are("SIZE", x.send(193, 3), Reader.blockOf(225, 3));
        Due.are("S does not count; it is the old piece", x.send(128), first);
        x.send(194);
        Due.are("though the ANSWER is no more", x.send(128), first);
        Due.are("which has no next piece", x.send(144), Reader.blockOf(144));
    }

    private static void readyAfterWrong() {
        Reader x = Cards.withFile(10);
        x.send(193, 6);
        x.send(0, 0, 176, 0, 0, 10);
        x.feedAll(0, 128, 0, 129);
        Due.are("R for what is WRONG was the latest", x.send(128), Reader.blockOf(144));
        Due.are("the ANSWER goes on", x.send(144), Reader.blockOf(64, 7, 8, 9, 10, 0x90, 0));
    }

    private static void readyWithoutReply() {
        Reader x = new Reader();
        x.on();
        Due.are("R 0", x.send(128), Reader.blockOf(128));
        Due.are("R 1", x.send(144), Reader.blockOf(128));
        x.send(32, 0);
        Due.are("R with IN 1", x.send(130), Reader.blockOf(144));
    }

    private static void resync() {
        Reader x = Cards.withFile(10);
        x.tell(0);
        x.send(193, 6);
        x.send(64, 0, 176, 0, 0, 10);
        x.send(32, 1, 2);
        Due.are("RESYNC", x.send(192), Reader.blockOf(224));
        int[] due = {1, 0, 1, 0, 0, 6, 0, 0};
        for (int what = 8; what < 16; what++) {
            Due.is("RESYNC: state(" + what + ")", x.state(what), due[what - 8]);
        }
        x.send(0, 0, 176, 0, 0, 10);
        Due.is("OUT has turned", x.state(12), 1);
        x.send(192);
        Due.is("IN", x.state(11), 0);
        Due.is("OUT", x.state(12), 0);
        Due.is("no ANSWER", x.state(15), 0);
        Due.are("none to repeat", x.send(144), Reader.blockOf(128));
    }

    private static void resize() {
        Reader x = new Reader();
        x.on();
        Due.are("1", x.send(193, 1), Reader.blockOf(225, 1));
        Due.is("SIZE", x.state(13), 1);
        Due.are("32", x.send(193, 32), Reader.blockOf(225, 32));
        Due.is("SIZE", x.state(13), 32);
        x.send(193, 9);
        for (int size : new int[] {0, 33, 255}) {
            Due.are("size " + size, x.send(193, size), Reader.blockOf(130));
            Due.is("SIZE is as it was", x.state(13), 9);
        }
        x.send(32, 0, 32, 0);
        x.send(193, 8);
        Due.is("the COMMAND is as it was", x.state(14), 3);
    }

    private static void abort() {
        Reader x = Cards.withFile(10);
        x.send(193, 6);
        x.send(0, 0, 176, 0, 0, 10);
        Due.are("194", x.send(194), Reader.blockOf(226));
        Due.is("no ANSWER", x.state(15), 0);
        Due.is("IN is as it was", x.state(11), 1);
        Due.is("OUT is as it was", x.state(12), 1);
        Due.is("SIZE is as it was", x.state(13), 6);
        x.send(96, 0, 176, 0);
        x.send(194);
        Due.is("no COMMAND", x.state(14), 0);
        Due.is("IN", x.state(11), 0);
        Due.hex("the next COMMAND", x.ask(), 0x63C3);
        Due.is("the CURRENT FILE is as it was", x.state(10), 1);
    }
}
