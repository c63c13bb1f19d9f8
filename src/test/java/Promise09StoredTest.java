/** Promise 9: stored. */
public final class Promise09StoredTest {
    public static void main(String[] args) {
        Reader x = new Reader();
        x.file(0, 1, 24, 2, 0);
        x.file(0, 2, 0, 0, 0);
        x.file(2, 3, 1, 0, 0);
        x.on();
        x.find(1);
        x.change(0, Reader.row(232, 24));
        Due.are("OCTETS while ON, whatever the RIGHTS", x.storedOctets(1, 24), Reader.row(232, 24));
        Due.is("the next FILE has its own", x.stored(3, 0), 0);
        int[][] none = {{1, 24}, {1, -1}, {3, 1}, {2, 0}, {0, 0}, {4, 0}, {7, 0}, {8, 0}, {-1, 0},
            {Integer.MIN_VALUE, 0}, {Integer.MAX_VALUE, 0}, {1, Integer.MIN_VALUE}, {1, Integer.MAX_VALUE}};
        for (int[] call : none) {
            Due.is("stored(" + call[0] + ", " + call[1] + ")", x.stored(call[0], call[1]), TornCard.REFUSED);
        }
        x.off();
        Due.are("OCTETS while OFF", x.storedOctets(1, 24), Reader.row(232, 24));
        Due.is("OFF: beyond the end", x.stored(1, 24), TornCard.REFUSED);
        for (int f = 4; f < 8; f++) {
            x.file(0, f, f, 0, 0);
        }
        Due.is("all 8 are there: the last OCTET", x.stored(7, 6), 0);
        Due.is("all 8 are there: none behind it", x.stored(7, 7), TornCard.REFUSED);
        Due.is("all 8 are there: no ninth", x.stored(8, 0), TornCard.REFUSED);
        Due.is("all 8 are there: look", x.look(8, 0), TornCard.REFUSED);
        Due.is("REFUSED", TornCard.REFUSED, -1);
        Due.end();
    }
}
