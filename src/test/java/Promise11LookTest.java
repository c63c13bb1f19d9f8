/** Promise 11: look. */
public final class Promise11LookTest {
    public static void main(String[] args) {
        Reader x = new Reader();
        x.file(0, 65535, 24, 1, 2);
        x.file(0, 0, 0, 2, 1);
        x.file(2, 258, 5, 2, 0);
        x.file(2, 16128, 0, 0, 0);
        x.file(4, 1, 1, 1, 2);
        int[][] due = {{16128, -1, 0, 0, 0}, {65535, 0, 24, 1, 2}, {0, 0, 0, 0, 0}, {258, 2, 5, 2, 0},
            {16128, 2, 0, 0, 0}, {1, 4, 1, 1, 2}};
        for (int turn = 0; turn < 2; turn++) {
            for (int f = 0; f < due.length; f++) {
                for (int what = 0; what < 5; what++) {
                    Due.is("look(" + f + ", " + what + ")", x.look(f, what), due[f][what]);
                }
            }
            int[][] none = {{6, 0}, {8, 0}, {-1, 0}, {1, -1}, {1, 5}, {0, 5}, {7, 4}, {Integer.MIN_VALUE, 0},
                {Integer.MAX_VALUE, 0}, {1, Integer.MIN_VALUE}, {1, Integer.MAX_VALUE}};
            for (int[] call : none) {
                Due.is("look(" + call[0] + ", " + call[1] + ")", x.look(call[0], call[1]), TornCard.REFUSED);
            }
            x.on();
        }
        Due.end();
    }
}
