/** Promise 3: tear, and the WRITINGS at which it comes. */
public final class Promise03TearTest {
    public static void main(String[] args) {
        whatItAnswers();
        refusals();
        whatIsLeft();
        outlastsOffAndOn();
        comesOnce();
        tornWhileChanging();
        tornWhileTelling();
        tornWhileRenewing();
        Due.end();
    }

    private static void whatItAnswers() {
        Reader x = new Reader();
        Due.is("the first", x.tear(0), -1);
        Due.is("instead of 0", x.tear(200), 0);
        Due.is("instead of 200", x.tear(-1), 200);
        Due.is("after none", x.tear(-1), -1);
        Due.is("after none again", x.tear(5), -1);
    }

    private static void refusals() {
        Reader x = new Reader();
        x.tear(7);
        for (int n : new int[] {-2, 201, Integer.MIN_VALUE, Integer.MAX_VALUE}) {
            Due.is("tear(" + n + ")", x.tear(n), TornCard.REFUSED);
        }
        Due.is("a refused one changes nothing", x.tear(-1), 7);
    }

    private static void whatIsLeft() {
        Reader x = new Reader();
        x.on();
        x.tear(5);
        x.tell(1);
        Due.is("5 less one WRITING", x.tear(9), 4);
        x.tell(0);
        Due.is("9 less two", x.tear(2), 7);
        x.tell(0);
        Due.is("2 less two: 0 are left", x.tear(0), 0);
        Due.is("not torn so far", x.state(6), 0);
        Due.is("WRITINGS", x.state(5), 5);
        x.tear(-1);
        Due.hex("taken back: nothing is torn", x.tell(0), 0x9000);
        Due.is("ON", x.state(0), 1);
    }

    private static void outlastsOffAndOn() {
        Reader x = new Reader();
        x.tear(1);
        x.on();
        x.off();
        x.on();
        x.on();
        Due.is("still to come", x.tear(1), 1);
        Due.is("telling", x.tell(0), Reader.NO_REPLY);
        Due.is("torn", x.state(6), 1);
    }

    private static void comesOnce() {
        Reader x = new Reader();
        x.tear(0);
        x.on();
        x.tell(0);
        Due.is("torn", x.state(6), 1);
        Due.is("OFF", x.state(0), 0);
        Due.is("what was not done is not counted", x.state(5), 0);
        Due.is("none to come", x.tear(-1), -1);
        x.on();
        Due.hex("not torn again", x.tell(0), 0x9000);
        Due.is("torn once", x.state(6), 1);
    }

    /** A CHANGE of 3 OCTETS: 5 WRITINGS for the NOTE, 3 OCTETS, 1 for the NOTE's end. */
    private static void tornWhileChanging() {
        for (int n = 0; n <= 9; n++) {
            Reader x = new Reader();
            x.file(0, 1, 6, 0, 0);
            x.on();
            x.find(1);
            x.change(0, 10, 11, 12, 13, 14, 15);
            int before = x.state(5);
            Due.is("WRITINGS of 6 OCTETS", before, 15);
            x.tear(n);
            int status = x.change(2, 90, 91, 92);
            String run = "torn after " + n + ": ";
            Due.hex(run + "STATUS", status, n < 9 ? Reader.NO_REPLY : 0x9000);
            Due.is(run + "ON", x.state(0), n < 9 ? 0 : 1);
            Due.is(run + "reply", x.reply(0), n < 9 ? -1 : 0);
            Due.is(run + "WRITINGS", x.state(5), before + n);
            Due.is(run + "NOTE", x.state(4), n >= 5 && n < 9 ? 1 : 0);
            Due.is(run + "torn", x.state(6), n < 9 ? 1 : 0);
            Due.is(run + "COMMANDS", x.state(7), n < 9 ? 2 : 3);
            Due.are(run + "OCTETS", x.storedOctets(1, 6), 10, 11, n > 5 ? 90 : 12, n > 6 ? 91 : 13, n > 7 ? 92 : 14, 15);
            Due.is(run + "on", x.on(), 1);
            boolean noted = n >= 5;
            Due.are(run + "OCTETS after on", x.storedOctets(1, 6),
                10, 11, noted ? 90 : 12, noted ? 91 : 13, noted ? 92 : 14, 15);
            Due.is(run + "WRITINGS after on", x.state(5), before + n + (noted && n < 9 ? 4 : 0));
            Due.is(run + "NOTE after on", x.state(4), 0);
        }
    }

    private static void tornWhileTelling() {
        int[] triesIfRight = {3, 2, 3};
        int[] triesIfWrong = {3, 2};
        for (int n = 0; n <= 2; n++) {
            Reader x = new Reader();
            x.on();
            x.tear(n);
            Due.hex("right SECRET, torn after " + n, x.tell(0), n < 2 ? Reader.NO_REPLY : 0x9000);
            Due.is("TRIES", x.state(2), triesIfRight[n]);
            Due.is("OPENED", x.state(8), n < 2 ? -1 : 1);
            Due.is("COMMANDS", x.state(7), n < 2 ? 0 : 1);
        }
        for (int n = 0; n <= 1; n++) {
            Reader x = new Reader();
            x.on();
            x.tear(n);
            Due.hex("wrong SECRET, torn after " + n, x.tell(5), n < 1 ? Reader.NO_REPLY : 0x63C2);
            Due.is("TRIES", x.state(2), triesIfWrong[n]);
            x.on();
            Due.is("TRIES in the reply", x.reply(2), triesIfWrong[n]);
        }
    }

    private static void tornWhileRenewing() {
        for (int n = 0; n <= 1; n++) {
            Reader x = new Reader();
            x.on();
            x.tell(0);
            x.tear(n);
            Due.hex("RENEW torn after " + n, x.renew(0x01020304), n < 1 ? Reader.NO_REPLY : 0x9000);
            Due.is("SECRET", x.state(3), n < 1 ? 0 : 0x01020304);
            Due.is("WRITINGS", x.state(5), 2 + n);
            Due.is("torn", x.state(6), 1 - n);
        }
    }
}
