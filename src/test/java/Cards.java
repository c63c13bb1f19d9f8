/** Cards as many tests begin with them. */
final class Cards {
    /** The COMMAND that asks whether the card is OPENED, as a word of 4 OCTETS. */
    static final long ASK = Reader.word(0, 32, 0, 1);

    private Cards() {
    }

    static Reader on() {
        Reader x = new Reader();
        x.on();
        return x;
    }

    static Reader opened() {
        Reader x = on();
        x.tell(0);
        return x;
    }

    /** FILE 1, which all may READ and CHANGE, is CURRENT and has the OCTETS 1, 2, and so on. IN and OUT are 0. */
    static Reader withFile(int size) {
        Reader x = new Reader();
        x.file(0, 1, size, 0, 0);
        x.on();
        x.find(1);
        x.change(0, Reader.row(1, size));
        return x;
    }

    /** As withFile, and the first PIECE of an ANSWER of size + 2 OCTETS was sent. IN and OUT are 1. */
    static Reader withAnswerInPieces(int size, int ofPiece) {
        Reader x = withFile(size);
        x.send(193, ofPiece);
        x.send(0, 0, 176, 0, 0, size);
        return x;
    }

    /** 8 FILES: 1 to 7 have one OCTET each and their number as NAME. */
    static Reader full() {
        Reader x = new Reader();
        for (int f = 1; f < 8; f++) {
            x.file(0, f, 1, 0, 0);
        }
        return x;
    }

    /** FILE 1 of size OCTETS, which are 0, and a CHANGE of all of them to 101, 102, and so on, torn after n WRITINGS. */
    static Reader tornInChange(int size, int n) {
        Reader x = new Reader();
        x.file(0, 1, size, 0, 0);
        x.on();
        x.find(1);
        x.tear(n);
        x.change(0, Reader.row(101, size));
        return x;
    }

    static int[] states(Reader x) {
        int[] states = new int[16];
        for (int what = 0; what < states.length; what++) {
            states[what] = x.state(what);
        }
        return states;
    }
}
