/** Promise 4: on. */
public final class Promise04OnTest {
    public static void main(String[] args) {
        greeting();
        stateWhenOn();
        forgetsWhatDoesNotLast();
        keepsWhatLasts();
        tornAgainAndAgain();
        tearWithoutNote();
        noteOfTheWholeFile();
        Due.end();
    }

    private static void greeting() {
        Reader x = new Reader();
        Due.is("on", x.on(), 1);
        Due.are("reply", x.reply(), 59, 1, 3, 32);
        x.tell(1);
        Due.is("on while ON", x.on(), 1);
        Due.are("reply with 2 TRIES", x.reply(), 59, 1, 2, 32);
        x.send(193, 5);
        x.on();
        Due.are("the 32 is no matter of SIZE", x.reply(), 59, 1, 2, 32);
    }

    private static void stateWhenOn() {
        Reader x = new Reader();
        x.file(0, 1, 1, 0, 0);
        x.on();
        int[] due = {1, 2, 3, 0, 0, 0, 0, 0, 0, 0, -1, 0, 0, 32, 0, 0};
        for (int what = 0; what < due.length; what++) {
            Due.is("ON: state(" + what + ")", x.state(what), due[what]);
        }
    }

    private static void forgetsWhatDoesNotLast() {
        for (int way = 0; way < 4; way++) {
            Reader x = new Reader();
            x.file(0, 1, 0, 0, 0);
            x.file(1, 2, 9, 0, 0);
            x.on();
            x.find(1);
            x.find(2);
            x.tell(0);
            x.send(193, 4);
            x.send(64, 0, 176, 0, 0, 9);
            Due.is("an ANSWER in pieces", x.state(15), 7);
            x.send(128);
            Due.is("OUT", x.state(12), 1);
            if (way > 1) {
                x.send(32, 1, 2, 3);
                Due.is("OCTETS of a COMMAND", x.state(14), 3);
                Due.is("IN", x.state(11), 1);
            }
            x.feed(0, 2);
            if (way % 2 == 1) {
                x.off();
            }
            x.on();
            int[] due = {0, 0, -1, 0, 0, 32, 0, 0};
            for (int what = 8; what < 16; what++) {
                Due.is("ON anew: state(" + what + ")", x.state(what), due[what - 8]);
            }
            Due.is("no OCTETS of a block", x.feed(0, 1), 1);
            x.block(144, 0, 0);
            Due.is("no reply to repeat", x.reply(1), 128);
        }
    }

    private static void keepsWhatLasts() {
        Reader x = new Reader();
        x.file(0, 1, 3, 0, 0);
        x.on();
        x.find(1);
        x.change(1, 8);
        x.tell(0);
        x.renew(77);
        x.on();
        Due.are("OCTETS", x.storedOctets(1, 3), 0, 8, 0);
        Due.is("SECRET", x.state(3), 77);
        Due.is("WRITINGS go on", x.state(5), 5 + 2 + 1);
        Due.is("COMMANDS go on", x.state(7), 4);
        Due.hex("the new SECRET", x.tell(77), 0x9000);
    }

    /** Each time all OCTETS of the NOTE are put there anew, from the first one on. */
    private static void tornAgainAndAgain() {
        Reader x = new Reader();
        x.file(0, 1, 4, 0, 0);
        x.on();
        x.find(1);
        x.tear(4);
        x.change(1, 21, 22);
        Due.is("a NOTE", x.state(4), 1);
        Due.are("nothing there yet", x.storedOctets(1, 4), 0, 0, 0, 0);
        int writings = 4;
        int[][] due = {{0, 0, 0, 0}, {0, 21, 0, 0}, {0, 21, 22, 0}};
        for (int n = 0; n < 3; n++) {
            x.tear(n);
            Due.is("on, torn after " + n, x.on(), 0);
            writings += n;
            Due.is("OFF", x.state(0), 0);
            Due.is("no reply", x.reply(0), -1);
            Due.is("still a NOTE", x.state(4), 1);
            Due.is("WRITINGS", x.state(5), writings);
            Due.is("torn", x.state(6), n + 2);
            Due.is("no TEAR is left", x.tear(-1), -1);
            Due.are("OCTETS", x.storedOctets(1, 4), due[n]);
        }
        x.tear(3);
        Due.is("on, 3 WRITINGS are enough", x.on(), 1);
        Due.is("no NOTE", x.state(4), 0);
        Due.is("WRITINGS", x.state(5), writings + 3);
        Due.is("none is left before the TEAR", x.tear(-1), 0);
        Due.are("reply", x.reply(), 59, 1, 3, 32);
        Due.is("on without a NOTE", x.on(), 1);
        Due.is("no WRITINGS more", x.state(5), writings + 3);
    }

    private static void tearWithoutNote() {
        Reader x = new Reader();
        x.tear(0);
        Due.is("on makes no WRITING", x.on(), 1);
        Due.is("the TEAR is to come", x.tear(-1), 0);
    }

    private static void noteOfTheWholeFile() {
        Reader x = new Reader();
        x.file(0, 1, 24, 0, 0);
        x.on();
        x.find(1);
        x.tear(26);
        Due.is("24 OCTETS, torn behind the NOTE", x.change(0, Reader.row(100, 24)), Reader.NO_REPLY);
        x.tear(24);
        Due.is("torn before the NOTE is away", x.on(), 0);
        Due.is("a NOTE", x.state(4), 1);
        Due.are("OCTETS", x.storedOctets(1, 24), Reader.row(100, 24));
        Due.is("on", x.on(), 1);
        Due.is("WRITINGS", x.state(5), 26 + 24 + 25);
    }
}
