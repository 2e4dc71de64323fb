/** Told logs, as rows of an op and a number by turns. */
final class Logs {
    static final int BRANCH = 1;
    static final int BLOCK = 2;
    static final int TRY = 3;
    static final int CLOSE = 4;

    private Logs() {
    }

    /** These lines alone become the told log. */
    static ColourProof tell(ColourProof x, int... lines) {
        x.cut(0);
        for (int i = 0; i + 1 < lines.length; i += 2) {
            x.tell(lines[i], lines[i + 1]);
        }
        return x;
    }

    /** The told log has these lines and no more. */
    static void due(String call, ColourProof x, int... lines) {
        Expect.due(call + ": lines told", State.toldLines(x), lines.length / 2);
        for (int i = 0; i + 1 < lines.length; i += 2) {
            Expect.due(call + ": told(" + i / 2 + ", 0)", x.told(i / 2, 0), lines[i]);
            Expect.due(call + ": told(" + i / 2 + ", 1)", x.told(i / 2, 1), lines[i + 1]);
        }
    }
}
