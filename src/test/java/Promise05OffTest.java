/** Promise 5: off. */
public final class Promise05OffTest {
    public static void main(String[] args) {
        Reader x = new Reader();
        Due.is("off at first", x.off(), 0);
        x.on();
        x.tell(9);
        Due.is("off while ON", x.off(), 1);
        Due.is("OFF", x.state(0), 0);
        Due.is("off again", x.off(), 0);
        Due.is("no reply", x.reply(0), -1);
        Due.is("no tearing", x.state(6), 0);
        Due.is("TRIES last", x.state(2), 2);
        Due.is("feed", x.feed(0, 1), TornCard.POWER);
        Due.is("block", x.block(0, 0, 0), TornCard.POWER);
        for (int what = 8; what < 16; what++) {
            Due.is("OFF: state(" + what + ")", x.state(what), -1);
        }
        x.on();
        x.tear(0);
        x.tell(0);
        Due.is("off after a TEAR", x.off(), 0);
        Due.end();
    }
}
