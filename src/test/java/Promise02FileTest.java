/** Promise 2: file. */
public final class Promise02FileTest {
    public static void main(String[] args) {
        numbersInOrder();
        edgesThatAreTaken();
        refusals();
        whichAnswerGoesFirst();
        onlyWhileOff();
        noWritings();
        Due.end();
    }

    private static void numbersInOrder() {
        Reader x = new Reader();
        for (int f = 1; f < 8; f++) {
            Due.is("file " + f, x.file(0, 100, f, 0, 0), f);
            Due.is("FILES", x.state(1), f + 1);
        }
        Due.is("ninth file", x.file(0, 100, 1, 0, 0), TornCard.FULL);
        Due.is("ninth DIRECTORY", x.file(0, 100, 0, 0, 0), TornCard.FULL);
        Due.is("FILES stay 8", x.state(1), 8);
        Due.is("the last one is as it was", x.look(7, 2), 7);
    }

    private static void edgesThatAreTaken() {
        Reader x = new Reader();
        Due.is("least name, size, rights", x.file(0, 0, 1, 0, 0), 1);
        Due.is("greatest of all", x.file(0, 65535, 24, 2, 2), 2);
        Due.is("a DIRECTORY's rights are not looked at", x.file(0, 5, 0, -7, 99), 3);
        Due.is("in a DIRECTORY", x.file(3, 5, 2, 1, 0), 4);
        Due.is("a DIRECTORY in a DIRECTORY", x.file(3, 6, 0, 0, 0), 5);
        Due.is("in that one", x.file(5, 16128, 3, 0, 1), 6);
        Due.are("OCTETS are 0 at first", x.storedOctets(2, 24), new int[24]);
        Due.is("no 25th OCTET", x.stored(2, 24), TornCard.REFUSED);
    }

    private static void refusals() {
        Reader x = new Reader();
        x.file(0, 1, 4, 0, 0);
        refused(x, 0, -1, 4, 0, 0);
        refused(x, 0, 65536, 4, 0, 0);
        refused(x, -1, 1, 4, 0, 0);
        refused(x, 1, 1, 4, 0, 0);
        refused(x, 2, 1, 4, 0, 0);
        refused(x, 8, 1, 4, 0, 0);
        refused(x, Integer.MIN_VALUE, 1, 4, 0, 0);
        refused(x, Integer.MAX_VALUE, 1, 4, 0, 0);
        refused(x, 0, 1, -1, 0, 0);
        refused(x, 0, 1, 25, 0, 0);
        refused(x, 0, 1, 4, -1, 0);
        refused(x, 0, 1, 4, 3, 0);
        refused(x, 0, 1, 4, 0, -1);
        refused(x, 0, 1, 4, 0, 3);
        refused(x, 0, 1, 1, 3, 0);
        refused(x, 0, 1, 1, 0, 3);
        refused(x, 0, -1, 0, 0, 0);
        refused(x, 1, 1, 0, 0, 0);
        Due.is("FILES after refusals", x.state(1), 2);
        Due.is("the next number", x.file(0, 1, 4, 0, 0), 2);
    }

    private static void refused(Reader x, int directory, int name, int size, int read, int change) {
        String call = "file(" + directory + ", " + name + ", " + size + ", " + read + ", " + change + ")";
        Due.is(call, x.file(directory, name, size, read, change), TornCard.REFUSED);
    }

    private static void whichAnswerGoesFirst() {
        Reader x = new Reader();
        for (int f = 1; f < 8; f++) {
            x.file(0, f, 1, 0, 0);
        }
        Due.is("REFUSED before FULL", x.file(0, 1, 25, 0, 0), TornCard.REFUSED);
        x.on();
        Due.is("REFUSED before POWER", x.file(0, -1, 1, 0, 0), TornCard.REFUSED);
        Due.is("POWER before FULL", x.file(0, 1, 1, 0, 0), TornCard.POWER);
    }

    private static void onlyWhileOff() {
        Reader x = new Reader();
        x.on();
        Due.is("ON", x.file(0, 1, 1, 0, 0), TornCard.POWER);
        Due.is("ON: FILES", x.state(1), 1);
        x.off();
        Due.is("OFF", x.file(0, 1, 1, 0, 0), 1);
        x.tear(0);
        x.on();
        x.tell(0);
        Due.is("OFF by a TEAR", x.file(0, 1, 1, 0, 0), 2);
    }

    private static void noWritings() {
        Reader x = new Reader();
        x.tear(0);
        Due.is("file with a TEAR to come", x.file(0, 1, 1, 0, 0), 1);
        Due.is("no WRITINGS", x.state(5), 0);
        Due.is("not torn", x.state(6), 0);
        Due.is("the TEAR is to come still", x.tear(-1), 0);
    }
}
