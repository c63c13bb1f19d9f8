/** Promise 10: state. */
public final class Promise10StateTest {
    public static void main(String[] args) {
        others();
        eachOne();
        secretBelowZero();
        commandsDone();
        Due.end();
    }

    private static void others() {
        Reader x = new Reader();
        for (int turn = 0; turn < 2; turn++) {
            for (int what : new int[] {-1, 16, 17, 100, Integer.MIN_VALUE, Integer.MAX_VALUE}) {
                Due.is("state(" + what + ")", x.state(what), TornCard.REFUSED);
            }
            x.on();
        }
    }

    private static void eachOne() {
        Reader x = new Reader();
        x.file(0, 1, 0, 0, 0);
        x.file(1, 2, 20, 0, 0);
        x.on();
        x.find(1);
        x.find(2);
        x.tell(7);
        x.tell(0);
        x.renew(0x0A0B0C0D);
        x.change(3, 1, 2);
        x.send(193, 6);
        x.send(0, 0, 176, 0, 0, 20);
        int[] due = {1, 3, 3, 0x0A0B0C0D, 0, 1 + 2 + 1 + 7, 0, 7, 1, 1, 2, 1, 1, 6, 0, 16};
        for (int what = 0; what < due.length; what++) {
            Due.is("state(" + what + ")", x.state(what), due[what]);
        }
        x.send(144);
        Due.is("OUT turns", x.state(12), 0);
        Due.is("less of the ANSWER", x.state(15), 10);
        x.send(96, 5, 5, 5);
        Due.is("IN turns", x.state(11), 0);
        Due.is("OCTETS of the COMMAND", x.state(14), 3);
        Due.is("the ANSWER is no more", x.state(15), 0);
        x.off();
        due = new int[] {0, 3, 3, 0x0A0B0C0D, 0, 11, 0, 7, -1, -1, -1, -1, -1, -1, -1, -1};
        for (int what = 0; what < due.length; what++) {
            Due.is("OFF: state(" + what + ")", x.state(what), due[what]);
        }
    }

    private static void secretBelowZero() {
        Reader x = new Reader();
        x.on();
        x.tell(0);
        x.renew(0xFEDCBA98);
        Due.is("SECRET", x.state(3), 0xFEDCBA98);
        x.tell(1);
        Due.is("not OPENED any more", x.state(8), 0);
        Due.is("TRIES", x.state(2), 2);
    }

    private static void commandsDone() {
        Reader x = new Reader();
        x.on();
        Due.hex("a wrong one has an ANSWER too", x.command(0, 0), 0x6700);
        Due.is("COMMANDS", x.state(7), 1);
        x.send(96, 0, 32);
        Due.is("not all of it there: not done", x.state(7), 1);
        x.send(0, 0, 1);
        Due.is("done", x.state(7), 2);
        x.send(144);
        x.send(192);
        x.send(0, 9, 9);
        Due.is("R and S are no COMMANDS", x.state(7), 3);
        x.send(0, 9, 9);
        Due.is("nor is what is WRONG", x.state(7), 3);
        x.tear(0);
        x.tell(0);
        Due.is("torn: no ANSWER came", x.state(7), 3);
    }
}
