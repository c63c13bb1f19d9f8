import java.util.Arrays;

/** Boundary cases of I, the PIECES of an ANSWER, R and S. */
final class ExchangeBoundaries {
    private ExchangeBoundaries() {
    }

    private static final String NUMBER = "I n m (PCB 64 n + 32 m; n, m bits): 2 if n is not IN.";

    @Of(in = "Terms", says = NUMBER)
    static void informationOfTheOtherNumber() {
        Reader x = Cards.on();
        Due.are("I 1 while IN is 0", x.send(64, 0, 32, 0, 1), Reader.blockOf(130));
        Due.are("I 1 m while IN is 0", x.send(96, 0), Reader.blockOf(130));
        Due.is("no OCTETS came", x.state(14), 0);
        x.send(32);
        Due.are("I 0 while IN is 1", x.send(0, 0, 32, 0, 1), Reader.blockOf(146));
        Due.are("I 0 m while IN is 1", x.send(32, 0), Reader.blockOf(146));
        Due.is("no OCTETS came", x.state(14), 0);
        Due.is("no COMMAND was done", x.state(7), 0);
    }

    @Of(in = "Terms", says = NUMBER)
    static void pcbsBesideThoseOfInformation() {
        for (int pcb : new int[] {1, 16, 31, 33, 48, 63, 65, 80, 95, 97, 112, 127}) {
            Reader x = Cards.on();
            Due.are("PCB " + pcb, x.send(pcb, 0, 32, 0, 1), Reader.blockOf(130));
            x.send(32);
            Due.are("PCB " + pcb + " while IN is 1", x.send(pcb, 0, 32, 0, 1), Reader.blockOf(146));
        }
    }

    private static final String TURNS = "Else IN turns, an ANSWER that is there is no more;";

    @Of(in = "Terms", says = TURNS)
    static void inTurnsBackTo0() {
        Reader x = Cards.on();
        for (int turn = 1; turn <= 4; turn++) {
            x.send(64 * ((turn + 1) % 2), 0, 32, 0, 1);
            Due.is("IN after " + turn, x.state(11), turn % 2);
        }
        for (int turn = 1; turn <= 4; turn++) {
            x.send(64 * ((turn + 1) % 2) + 32);
            Due.is("IN after " + turn + " with m", x.state(11), turn % 2);
        }
    }

    @Of(in = "Terms", says = TURNS)
    static void anEmptyInformationEndsAnAnswer() {
        Reader x = Cards.withAnswerInPieces(6, 1);
        Due.is("before", x.state(15), 7);
        x.send(96);
        Due.is("OCTETS of the ANSWER", x.state(15), 0);
        Due.are("R OUT", x.send(144), Reader.blockOf(128));
    }

    @Of(in = "Terms", says = TURNS)
    static void anAnswerDoesNotComeBackWithTheNext() {
        Reader x = Cards.withAnswerInPieces(6, 1);
        Due.are("I 1 with the COMMAND that asks", x.send(64, 0, 32, 0, 1), Reader.blockOf(96, 0x63));
        Due.is("only the new ANSWER is there", x.state(15), 1);
        Due.are("its rest", x.send(128), Reader.blockOf(0, 0xC3));
    }

    private static final String BEYOND_40 = "the INF comes to the COMMAND (what would be beyond 40 OCTETS is lost, and makes it"
        + " TOO LONG).";

    @Of(in = "Terms", says = BEYOND_40)
    static void fortyOctetsAndOneMore() {
        Reader x = Cards.on();
        x.send(32, new int[32]);
        x.send(96, new int[7]);
        Due.is("39", x.state(14), 39);
        x.send(32, 0);
        Due.is("40", x.state(14), 40);
        x.send(96);
        Due.is("40 and none", x.state(14), 40);
        x.send(32, 0);
        Due.is("40 and one", x.state(14), 40);
        Due.are("it is TOO LONG", x.send(64), Reader.blockOf(0, 0x67, 0));
    }

    @Of(in = "Terms", says = BEYOND_40)
    static void aBlockOverTheEdgeOf40() {
        Reader x = Cards.on();
        x.send(32, new int[32]);
        x.send(96, new int[32]);
        Due.is("64: 40 are there", x.state(14), 40);
        x.send(32, new int[32]);
        Due.is("96: 40 are there", x.state(14), 40);
        Due.are("6700", x.send(64, 0), Reader.blockOf(0, 0x67, 0));
        Due.hex("the next COMMAND is not TOO LONG", x.ask(), 0x63C3);
    }

    @Of(in = "Terms", says = BEYOND_40)
    static void theNextAfterOneTooLongComesWhole() {
        Reader x = Cards.withFile(24);
        x.command(new int[41]);
        Due.hex("CHANGE of 24", x.change(0, Reader.row(50, 24)), 0x9000);
        Due.are("OCTETS", x.storedOctets(1, 24), Reader.row(50, 24));
    }

    private static final String DONE = "With m the reply is R IN with 0; else the COMMAND is done, which gives an ANSWER, its"
        + " OCTETS are none then, and the reply is the next PIECE.";

    @Of(in = "Terms", says = DONE)
    static void emptyWithMore() {
        Reader x = Cards.on();
        Due.are("I 0 m", x.send(32), Reader.blockOf(144));
        Due.are("I 1 m", x.send(96), Reader.blockOf(128));
        Due.is("no COMMAND was done", x.state(7), 0);
        Due.is("OUT", x.state(12), 0);
    }

    @Of(in = "Terms", says = DONE)
    static void emptyWithoutMore() {
        Reader x = Cards.on();
        Due.are("a COMMAND of no OCTETS", x.send(0), Reader.blockOf(0, 0x67, 0));
        Due.is("it was done", x.state(7), 1);
    }

    @Of(in = "Terms", says = DONE)
    static void emptyAtTheEndOfACommand() {
        Reader x = Cards.on();
        x.send(32, 0, 32, 0, 1);
        Due.is("4 OCTETS", x.state(14), 4);
        Due.are("the COMMAND is done", x.send(64), Reader.blockOf(0, 0x63, 0xC3));
        Due.is("none then", x.state(14), 0);
    }

    private static final String PIECE = "The next PIECE of the ANSWER: the first SIZE of its OCTETS that were not sent yet (or"
        + " all that are left), as INF of I OUT m, with m if some are left then; then OUT turns.";

    /** An ANSWER of 26 OCTETS in PIECES of size: how many of them, and how long the last one is. */
    private static void pieces(int size, int count, int lengthOfLast) {
        int[] answer = Reader.join(Reader.row(1, 24), 0x90, 0);
        Reader x = Cards.withFile(24);
        x.send(193, size);
        int[] reply = x.send(0, 0, 176, 0, 0, 24);
        for (int piece = 0; piece < count; piece++) {
            boolean last = piece == count - 1;
            int length = last ? lengthOfLast : size;
            int[] due = Arrays.copyOfRange(answer, piece * size, piece * size + length);
            Due.are("SIZE " + size + ", PIECE " + piece, reply, Reader.blockOf(64 * (piece % 2) + (last ? 0 : 32), due));
            Due.is("OUT", x.state(12), (piece + 1) % 2);
            Due.is("left", x.state(15), last ? 0 : 26 - (piece + 1) * size);
            reply = x.send(128 + 16 * ((piece + 1) % 2));
        }
        Due.are("no PIECE more", reply, Reader.blockOf(144));
    }

    @Of(in = "Terms", says = PIECE)
    static void piecesOfOne() {
        pieces(1, 26, 1);
    }

    @Of(in = "Terms", says = PIECE)
    static void piecesThatFitJust() {
        pieces(13, 2, 13);
    }

    @Of(in = "Terms", says = PIECE)
    static void oneOctetIsLeft() {
        pieces(25, 2, 1);
    }

    @Of(in = "Terms", says = PIECE)
    static void theWholeAnswerFitsJust() {
        pieces(26, 1, 26);
    }

    @Of(in = "Terms", says = PIECE)
    static void moreRoomThanTheAnswerNeeds() {
        pieces(27, 1, 26);
        pieces(32, 1, 26);
    }

    private static final String READY = "R n e (PCB 128 + 16 n + e, e 0..2; LENGTH 0, else 2):";

    @Of(in = "Terms", says = READY)
    static void leastAndGreatestE() {
        for (int e = 0; e <= 2; e++) {
            Reader x = Cards.withAnswerInPieces(6, 4);
            Due.are("e " + e, x.send(144 + e), Reader.blockOf(64, 5, 6, 0x90, 0));
        }
        for (int pcb : new int[] {127, 131, 143, 147, 159, 160}) {
            Reader x = Cards.withAnswerInPieces(6, 4);
            Due.are("PCB " + pcb, x.send(pcb), Reader.blockOf(146));
        }
    }

    @Of(in = "Terms", says = READY)
    static void readyWithInf() {
        for (int length : new int[] {1, 8, 32}) {
            Reader x = Cards.withAnswerInPieces(6, 4);
            Due.are("R 1, LENGTH " + length, x.send(144, new int[length]), Reader.blockOf(146));
            Due.are("R 0, LENGTH " + length, x.send(128, new int[length]), Reader.blockOf(146));
            Due.is("no PIECE was sent", x.state(15), 4);
        }
    }

    private static final String NEXT = "if n is OUT, and an ANSWER has OCTETS that were not sent: the next PIECE.";

    @Of(in = "Terms", says = NEXT)
    static void lastPieceAndNoneBehindIt() {
        Reader x = Cards.withAnswerInPieces(6, 7);
        Due.is("one is left", x.state(15), 1);
        Due.are("R OUT", x.send(144), Reader.blockOf(64, 0));
        Due.is("none is left", x.state(15), 0);
        Due.are("R OUT", x.send(128), Reader.blockOf(144));
    }

    @Of(in = "Terms", says = NEXT)
    static void noAnswerAtAll() {
        Due.are("R OUT after on", Cards.on().send(128), Reader.blockOf(128));
    }

    private static final String AGAIN = "If n is not OUT, and the latest reply that was I or R (since ON or RESYNC) was I: that again.";

    @Of(in = "Terms", says = AGAIN)
    static void firstAndLastPieceAgain() {
        Reader x = Cards.withAnswerInPieces(6, 4);
        Due.are("the first one", x.send(128), Reader.blockOf(32, 1, 2, 3, 4));
        Due.are("and once more", x.send(129), Reader.blockOf(32, 1, 2, 3, 4));
        Due.is("as much is left", x.state(15), 4);
        Due.is("OUT", x.state(12), 1);
        Due.are("the next one", x.send(144), Reader.blockOf(64, 5, 6, 0x90, 0));
        Due.are("the last one, when nothing is left", x.send(146), Reader.blockOf(64, 5, 6, 0x90, 0));
        Due.is("OUT", x.state(12), 0);
    }

    @Of(in = "Terms", says = AGAIN)
    static void longestPieceAgain() {
        Reader x = Cards.withFile(24);
        int[] whole = x.send(0, 0, 176, 0, 0, 24);
        Due.is("30 OCTETS", whole.length, 30);
        x.send(193, 1);
        Due.are("again, though SIZE is 1 now", x.send(128), whole);
    }

    @Of(in = "Terms", says = AGAIN)
    static void aReplyToSIsPassedOver() {
        Reader x = Cards.withAnswerInPieces(6, 4);
        x.send(193, 32);
        x.send(194);
        Due.are("that again", x.send(128), Reader.blockOf(32, 1, 2, 3, 4));
    }

    @Of(in = "Terms", says = AGAIN)
    static void noneSinceOn() {
        Reader x = Cards.withAnswerInPieces(6, 4);
        x.on();
        Due.are("R 1", x.send(144), Reader.blockOf(128));
    }

    @Of(in = "Terms", says = AGAIN)
    static void noneSinceResync() {
        Reader x = Cards.withAnswerInPieces(6, 4);
        x.send(192);
        Due.are("R 1", x.send(144), Reader.blockOf(128));
    }

    @Of(in = "Terms", says = "Else: R IN with 0.")
    static void theLatestReplyWasR() {
        Reader x = Cards.withAnswerInPieces(6, 8);
        Due.are("nothing is left", x.send(144), Reader.blockOf(144));
        Due.are("that was R, so nothing again", x.send(128), Reader.blockOf(144));
        x.send(96);
        Due.are("IN is 0 now", x.send(130), Reader.blockOf(128));
    }

    @Of(in = "Terms", says = "Else: R IN with 0.")
    static void theLatestReplyWasRForAWrongBlock() {
        Reader x = Cards.withAnswerInPieces(6, 4);
        x.send(255);
        Due.are("not the I before it", x.send(128), Reader.blockOf(144));
    }

    @Of(in = "Terms", says = "S (LENGTH as said, else 2):")
    static void lengthsBesideThoseSaid() {
        int[][] pcbAndLength = {{192, 1}, {192, 32}, {193, 0}, {193, 2}, {193, 32}, {194, 1}, {194, 32}};
        for (int[] s : pcbAndLength) {
            Reader x = Cards.withAnswerInPieces(6, 4);
            int[] inf = new int[s[1]];
            Arrays.fill(inf, 5);
            Due.are("PCB " + s[0] + ", LENGTH " + s[1], x.send(s[0], inf), Reader.blockOf(146));
            Due.is("SIZE", x.state(13), 4);
            Due.is("OCTETS of the ANSWER", x.state(15), 4);
        }
    }

    private static final String RESYNC = "192, LENGTH 0, RESYNC: IN and OUT are 0, COMMAND and ANSWER are no more; the reply is 224.";

    @Of(in = "Terms", says = RESYNC)
    static void resyncEndsAnAnswer() {
        Reader x = Cards.withAnswerInPieces(6, 1);
        Due.are("reply", x.send(192), Reader.blockOf(224));
        Due.is("IN", x.state(11), 0);
        Due.is("OUT", x.state(12), 0);
        Due.is("OCTETS of the ANSWER", x.state(15), 0);
        Due.are("R OUT", x.send(128), Reader.blockOf(128));
    }

    @Of(in = "Terms", says = RESYNC)
    static void resyncEndsACommandThatIsTooLong() {
        Reader x = Cards.on();
        x.send(32, new int[32]);
        x.send(96, new int[9]);
        x.send(192);
        Due.is("OCTETS of the COMMAND", x.state(14), 0);
        Due.hex("the next one is not TOO LONG", x.ask(), 0x63C3);
    }

    @Of(in = "Terms", says = RESYNC)
    static void resyncWhenThereIsNothing() {
        Reader x = Cards.on();
        int[] before = Cards.states(x);
        Due.are("reply", x.send(192), Reader.blockOf(224));
        Due.are("states", Cards.states(x), before);
    }

    private static final String SIZE = "193, LENGTH 1: SIZE is the OCTET of INF, if that is 1..32 (else 2); the reply is 225 with this.";

    @Of(in = "Terms", says = SIZE)
    static void leastAndGreatestSize() {
        Reader x = Cards.on();
        Due.are("1", x.send(193, 1), Reader.blockOf(225, 1));
        Due.is("SIZE", x.state(13), 1);
        Due.are("32", x.send(193, 32), Reader.blockOf(225, 32));
        Due.is("SIZE", x.state(13), 32);
    }

    @Of(in = "Terms", says = SIZE)
    static void sizeTooSmallAndTooLarge() {
        Reader x = Cards.on();
        x.send(193, 7);
        for (int size : new int[] {0, 33, 128, 255}) {
            Due.are("" + size, x.send(193, size), Reader.blockOf(130));
            Due.is("SIZE", x.state(13), 7);
        }
    }

    private static final String ABORT = "194, LENGTH 0: the COMMAND and the ANSWER are no more; the reply is 226.";

    @Of(in = "Terms", says = ABORT)
    static void abortEndsAnAnswer() {
        Reader x = Cards.withAnswerInPieces(6, 1);
        Due.are("reply", x.send(194), Reader.blockOf(226));
        Due.is("IN is as it was", x.state(11), 1);
        Due.is("OUT is as it was", x.state(12), 1);
        Due.is("OCTETS of the ANSWER", x.state(15), 0);
        Due.are("R OUT", x.send(144), Reader.blockOf(144));
    }

    @Of(in = "Terms", says = ABORT)
    static void abortEndsACommandThatIsTooLong() {
        Reader x = Cards.on();
        x.send(32, new int[32]);
        x.send(96, new int[9]);
        x.send(194);
        Due.is("OCTETS of the COMMAND", x.state(14), 0);
        Due.hex("the next one is not TOO LONG", x.ask(), 0x63C3);
    }

    @Of(in = "Terms", says = ABORT)
    static void abortWhenThereIsNothing() {
        Reader x = Cards.on();
        int[] before = Cards.states(x);
        Due.are("reply", x.send(194), Reader.blockOf(226));
        Due.are("states", Cards.states(x), before);
    }

    private static boolean goes(int pcb) {
        return pcb == 0 || pcb == 32 || pcb >= 128 && pcb <= 130 || pcb >= 144 && pcb <= 146 || pcb >= 192 && pcb <= 194;
    }

    @Of(in = "Terms", says = "Other PCBs: 2.")
    static void allOtherPcbs() {
        for (int pcb = 0; pcb < 256; pcb++) {
            Reader x = Cards.on();
            x.block(pcb, 5, pcb == 193 ? 1 : 0);
            Due.is("PCB " + pcb + " is WRONG", x.reply(1) == 130 ? 1 : 0, goes(pcb) ? 0 : 1);
        }
    }
}
