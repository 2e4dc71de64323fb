/** Graphs that several tests use. */
final class Graphs {
    private Graphs() {
    }

    static ColourProof of(int n, int... ends) {
        ColourProof x = new ColourProof();
        x.graph(n);
        for (int i = 0; i + 1 < ends.length; i += 2) {
            x.edge(ends[i], ends[i + 1], true);
        }
        return x;
    }

    static ColourProof drawn(int n, int seed, int part) {
        ColourProof x = new ColourProof();
        x.graph(n);
        x.draw(seed, part);
        return x;
    }

    static ColourProof complete(int n) {
        return drawn(n, 1, 100);
    }

    static ColourProof ring(int n) {
        ColourProof x = new ColourProof();
        x.graph(n);
        for (int v = 0; v < n; v++) {
            x.edge(v, (v + 1) % n, true);
        }
        return x;
    }

    /** Without triangles, but not to be coloured with three colours. */
    static ColourProof groetzsch() {
        ColourProof x = of(11);
        for (int v = 0; v < 5; v++) {
            x.edge(v, (v + 1) % 5, true);
            x.edge(v + 5, (v + 1) % 5, true);
            x.edge(v + 5, (v + 4) % 5, true);
            x.edge(v + 5, 10, true);
        }
        return x;
    }

    static ColourProof turned(int seed, int part, int factor, int shift) {
        ColourProof x = drawn(30, seed, part);
        x.turn(factor, shift);
        return x;
    }

    /** Its SEARCH with 6 colours finds nothing and writes just 3,000 lines, the last of them a BLOCK. */
    static ColourProof justFits() {
        return turned(4687, 40, 23, 24);
    }

    /** Its SEARCH with 6 colours would find nothing and write 3,001 lines, the last of them a BLOCK. */
    static ColourProof justTooLong() {
        return turned(6858, 38, 13, 23);
    }

    /** Its SEARCH with 13 colours finds nothing and writes just 3,000 lines, the last of them a CLOSE. */
    static ColourProof closeJustFits() {
        return turned(171272, 82, 1, 15);
    }

    /** Its SEARCH with 7 colours would find nothing and write 3,001 lines, the last of them a CLOSE. */
    static ColourProof closeJustTooLong() {
        return turned(199516, 54, 17, 15);
    }

    /** Its SEARCH with 8 colours finds something behind the TRY that is its 3,000th line. */
    static ColourProof foundJustInTime() {
        return turned(11531, 62, 1, 2);
    }

    /** Its SEARCH with 8 colours would find something behind the TRY that is its 3,001st line. */
    static ColourProof foundJustTooLate() {
        return turned(11531, 62, 1, 1);
    }

    /** The 3,001st line of its SEARCH with 6 colours would be a BRANCH, with all colours of those above it tried. */
    static ColourProof branchTooLate() {
        return turned(11852, 40, 17, 16);
    }

    /** The 3,001st line of its SEARCH with 11 colours would be a TRY, with all colours of those above it tried. */
    static ColourProof tryTooLate() {
        return turned(822, 80, 23, 12);
    }

    /** Two told lines, one of them a CLOSE of no set, and three told colours, of 29 even where that is no vertex. */
    static ColourProof told(ColourProof x) {
        x.tell(1, 3);
        x.tell(4, -7);
        x.paint(0, 4);
        x.paint(1, 29);
        x.paint(29, 0);
        return x;
    }

    /** The ring of five, with told lines and told colours, and not solved. */
    static ColourProof unsolved() {
        return told(ring(5));
    }

    /** The same, solved. */
    static ColourProof solved() {
        ColourProof x = unsolved();
        x.solve();
        return x;
    }

    /** No vertices, with told lines and told colours, and solved. */
    static ColourProof solvedEmpty() {
        ColourProof x = told(new ColourProof());
        x.solve();
        return x;
    }

    /** A told log of 3,000 lines, which 512 calls of tell() can't make. */
    static ColourProof fullLog() {
        ColourProof x = justFits();
        x.search(6);
        return x;
    }
}
