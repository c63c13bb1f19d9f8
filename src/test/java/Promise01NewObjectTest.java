/** Promise 1: a new object. */
public final class Promise01NewObjectTest {
    public static void main(String[] args) {
        stateOfNewCard();
        onlyFile0();
        noTearIsToCome();
        cardsAreApart();
        Due.end();
    }

    private static void stateOfNewCard() {
        Reader x = new Reader();
        int[] due = {0, 1, 3, 0, 0, 0, 0, 0, -1, -1, -1, -1, -1, -1, -1, -1};
        for (int what = 0; what < due.length; what++) {
            Due.is("new: state(" + what + ")", x.state(what), due[what]);
        }
        Due.is("new: reply(0)", x.reply(0), -1);
        Due.is("new: off", x.off(), 0);
    }

    private static void onlyFile0() {
        Reader x = new Reader();
        int[] due = {16128, -1, 0, 0, 0};
        for (int what = 0; what < due.length; what++) {
            Due.is("new: look(0, " + what + ")", x.look(0, what), due[what]);
        }
        Due.is("new: look(1, 0)", x.look(1, 0), TornCard.REFUSED);
        Due.is("new: stored(0, 0)", x.stored(0, 0), TornCard.REFUSED);
        Due.is("new: file takes number 1", x.file(0, 1, 1, 0, 0), 1);
    }

    private static void noTearIsToCome() {
        Reader x = new Reader();
        Due.is("new: tear(-1)", x.tear(-1), -1);
        Reader y = new Reader();
        y.on();
        Due.hex("new: the SECRET is 0", y.tell(0), 0x9000);
        Due.is("new: both WRITINGS were done", y.state(5), 2);
    }

    private static void cardsAreApart() {
        Reader x = new Reader();
        Reader y = new Reader();
        x.file(0, 7, 3, 0, 0);
        x.tear(9);
        x.on();
        x.tell(1);
        Due.is("other card: FILES", y.state(1), 1);
        Due.is("other card: TRIES", y.state(2), 3);
        Due.is("other card: OFF", y.state(0), 0);
        Due.is("other card: no TEAR", y.tear(-1), -1);
    }
}
