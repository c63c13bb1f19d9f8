/** Promise 8: reply. */
public final class Promise08ReplyTest {
    public static void main(String[] args) {
        edges();
        latestOnly();
        allOfIt();
        noneWhileOff();
        Due.end();
    }

    private static void edges() {
        Reader x = new Reader();
        x.on();
        for (int k : new int[] {-1, 4, 5, 36, 1000, Integer.MIN_VALUE, Integer.MAX_VALUE}) {
            Due.is("reply(" + k + ")", x.reply(k), -1);
        }
        Due.is("reply(3)", x.reply(3), 32);
        x.block(192, 0, 0);
        Due.is("after a BLOCK of 4: reply(3)", x.reply(3), 224);
        Due.is("after a BLOCK of 4: reply(4)", x.reply(4), -1);
    }

    private static void latestOnly() {
        Reader x = new Reader();
        x.file(0, 1, 9, 0, 0);
        x.on();
        x.find(1);
        x.read(0, 9);
        x.block(192, 0, 0);
        Due.are("a shorter one has nothing of the longer one", x.reply(), 0, 224, 0, 224);
        x.feed(0, 3);
        Due.are("a BLOCK that is not whole leaves the reply", x.reply(), 0, 224, 0, 224);
    }

    private static void allOfIt() {
        Reader x = new Reader();
        x.file(0, 1, 24, 0, 0);
        x.on();
        x.find(1);
        x.change(0, Reader.row(200, 24));
        Due.are("0, PCB, LENGTH, INF, SUM", x.send(0, 0, 176, 0, 0, 0),
            Reader.blockOf(0, Reader.join(Reader.row(200, 24), 0x62, 0x82)));
    }

    private static void noneWhileOff() {
        Reader x = new Reader();
        Due.is("new", x.reply(0), -1);
        x.on();
        x.block(192, 0, 0);
        x.off();
        Due.is("OFF", x.reply(0), -1);
        x.on();
        Due.is("ON again", x.reply(0), 59);
        x.tear(0);
        x.tell(0);
        Due.is("torn", x.reply(0), -1);
    }
}
