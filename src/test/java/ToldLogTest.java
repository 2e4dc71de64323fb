/** Promises 17 to 22: tell, take, alter, cut, told, check. */
public final class ToldLogTest {
    public static void main(String[] args) {
        tell();
        tellIsFull();
        take();
        alter();
        cut();
        told();
        checkNumbers();
        checkBranches();
        checkBlocks();
        checkForgetsColoursOnTheWayBack();
        checkTries();
        checkCloses();
        checkEnds();
        checkUsesTheGraphAsItIs();
        checkGoesDeep();
        Expect.end();
    }

    private static ColourProof tellAll(ColourProof x, int... lines) {
        x.cut(0);
        for (int i = 0; i + 1 < lines.length; i += 2) {
            x.tell(lines[i], lines[i + 1]);
        }
        return x;
    }

    private static void tell() {
        ColourProof x = new ColourProof();
        int[] numbers = {0, -1, 30, Integer.MIN_VALUE, Integer.MAX_VALUE};
        int told = 0;
        for (int op = 1; op <= 4; op++) {
            for (int number : numbers) {
                Expect.due("tell(" + op + ", " + number + ")", x.tell(op, number), told + 1);
                Expect.due("told(" + told + ", 0)", x.told(told, 0), op);
                Expect.due("told(" + told + ", 1)", x.told(told, 1), number);
                told++;
            }
        }
        for (int bad : new int[] {0, 5, -1, Integer.MIN_VALUE, Integer.MAX_VALUE}) {
            Expect.due("tell(" + bad + ", 0)", x.tell(bad, 0), -1);
        }
        Expect.due("cut(21)", x.cut(21), -1);
    }

    private static void tellIsFull() {
        // 512 calls can't tell 3,000 lines one by one, so they come from a search.
        ColourProof x = Graphs.justFits();
        x.search(6);
        Expect.due("cut(2998)", x.cut(2998), 2998);
        Expect.due("tell(1, 1)", x.tell(1, 1), 2999);
        Expect.due("tell(2, 2)", x.tell(2, 2), 3000);
        Expect.due("tell(3, 3)", x.tell(3, 3), -3);
        Expect.due("tell(5, 3)", x.tell(5, 3), -1);
        Expect.due("told(2999, 0)", x.told(2999, 0), 2);
        Expect.due("told(3000, 0)", x.told(3000, 0), -1);
    }

    private static void take() {
        ColourProof x = Graphs.of(3, 0, 1);
        x.tell(1, 2);
        x.tell(1, 2);
        Expect.due("take() unsolved", x.take(), -2);
        Expect.due("told(1, 1)", x.told(1, 1), 2);
        x.solve();
        Expect.due("take()", x.take(), 1);
        Expect.due("told(0, 0)", x.told(0, 0), 4);
        Expect.due("told(0, 1)", x.told(0, 1), 3);
        Expect.due("told(1, 0)", x.told(1, 0), -1);
        x.alter(0, 1, 9);
        x.tell(2, 2);
        Expect.due("line(0, 1) stays", x.line(0, 1), 3);
        Expect.due("lines() stays", x.lines(), 1);
        x.graph(0);
        x.solve();
        Expect.due("take() of an empty log", x.take(), 0);
        Expect.due("told(0, 0)", x.told(0, 0), -1);
        x = Graphs.ring(5);
        x.solve();
        Expect.due("take() of nine", x.take(), 9);
        Expect.due("told(7, 1)", x.told(7, 1), 24);
    }

    private static void alter() {
        ColourProof x = tellAll(new ColourProof(), 1, 5, 2, 6);
        Expect.due("alter(1, 4, MIN)", x.alter(1, 4, Integer.MIN_VALUE), 1);
        Expect.due("told(1, 0)", x.told(1, 0), 4);
        Expect.due("told(1, 1)", x.told(1, 1), Integer.MIN_VALUE);
        Expect.due("told(0, 1)", x.told(0, 1), 5);
        for (int bad : new int[] {-1, 2, 3000, Integer.MIN_VALUE, Integer.MAX_VALUE}) {
            Expect.due("alter(" + bad + ", 1, 0)", x.alter(bad, 1, 0), -1);
        }
        for (int bad : new int[] {0, 5, -1, Integer.MIN_VALUE, Integer.MAX_VALUE}) {
            Expect.due("alter(0, " + bad + ", 8)", x.alter(0, bad, 8), -1);
        }
        Expect.due("told(0, 0)", x.told(0, 0), 1);
        Expect.due("told(0, 1)", x.told(0, 1), 5);
        Expect.due("alter(0, 3, 0)", x.alter(0, 3, 0), 1);
        Expect.due("told(0, 0)", x.told(0, 0), 3);
        Expect.due("cut(3)", x.cut(3), -1);
    }

    private static void cut() {
        ColourProof x = tellAll(new ColourProof(), 1, 5, 2, 6, 3, 7);
        Expect.due("cut(4)", x.cut(4), -1);
        Expect.due("cut(-1)", x.cut(-1), -1);
        Expect.due("cut(MIN)", x.cut(Integer.MIN_VALUE), -1);
        Expect.due("cut(MAX)", x.cut(Integer.MAX_VALUE), -1);
        Expect.due("cut(3)", x.cut(3), 3);
        Expect.due("told(2, 1)", x.told(2, 1), 7);
        Expect.due("cut(1)", x.cut(1), 1);
        Expect.due("told(0, 1)", x.told(0, 1), 5);
        Expect.due("told(1, 1)", x.told(1, 1), -1);
        Expect.due("alter(1, 1, 1)", x.alter(1, 1, 1), -1);
        Expect.due("cut(2)", x.cut(2), -1);
        Expect.due("tell(4, 9)", x.tell(4, 9), 2);
        Expect.due("told(1, 1)", x.told(1, 1), 9);
        Expect.due("cut(0)", x.cut(0), 0);
        Expect.due("told(0, 0)", x.told(0, 0), -1);
        Expect.due("cut(0) of none", x.cut(0), 0);
    }

    private static void told() {
        ColourProof x = tellAll(new ColourProof(), 1, 5, 4, -7);
        Expect.due("told(1, 0)", x.told(1, 0), 4);
        Expect.due("told(1, 1)", x.told(1, 1), -7);
        for (int bad : new int[] {-1, 2, 2999, 3000, Integer.MIN_VALUE, Integer.MAX_VALUE}) {
            Expect.due("told(" + bad + ", 0)", x.told(bad, 0), -1);
            Expect.due("told(" + bad + ", 1)", x.told(bad, 1), -1);
        }
        for (int bad : new int[] {-1, 2, Integer.MIN_VALUE, Integer.MAX_VALUE}) {
            Expect.due("told(0, " + bad + ")", x.told(0, bad), -1);
        }
    }

    private static void checkNumbers() {
        ColourProof x = tellAll(Graphs.of(1), 4, 1);
        for (int bad : new int[] {-1, 31, 32, Integer.MIN_VALUE, Integer.MAX_VALUE}) {
            Expect.due("check(" + bad + ")", x.check(bad), -2);
        }
        Expect.due("check(0)", x.check(0), -1);
        Expect.due("check(30)", x.check(30), 0);
    }

    private static void checkBranches() {
        for (int bad : new int[] {-1, 3, 30, 32, 33, Integer.MIN_VALUE, Integer.MAX_VALUE}) {
            Expect.due("check(0) of BRANCH " + bad, tellAll(Graphs.of(3), 1, bad).check(0), 0);
        }
        for (int v = 0; v < 3; v++) {
            Expect.due("check(0) of BRANCH " + v, tellAll(Graphs.of(3), 1, v).check(0), -1);
            Expect.due("check(1) of BRANCH " + v, tellAll(Graphs.of(3), 1, v).check(1), 1);
        }
        ColourProof x = tellAll(Graphs.of(3), 1, 1, 3, 0, 1, 1);
        Expect.due("check(1): a vertex that has a colour", x.check(1), 2);
        x = tellAll(Graphs.of(3), 1, 1, 3, 0, 1, 2, 3, 0, 1, 1);
        Expect.due("check(1): a vertex that has a colour", x.check(1), 4);
        Expect.due("check(1): op 2 first", tellAll(Graphs.of(3), 2, 0).check(1), 0);
        Expect.due("check(1): op 3 first", tellAll(Graphs.of(3), 3, 0).check(1), 0);
        Expect.due("check(0): op 3 first", tellAll(Graphs.of(3), 3, 0).check(0), 0);
        // After a branch one is done, its vertex has no colour any more in the next.
        x = tellAll(Graphs.of(4, 0, 1, 0, 2, 0, 3, 1, 2, 1, 3, 2, 3),
                1, 0, 3, 0, 1, 1, 2, 0, 3, 1, 1, 2, 2, 0, 2, 1);
        Expect.due("check(2): proof of four", x.check(2), -1);
    }

    private static void checkBlocks() {
        // 0 - 1, 0 - 2, 1 - 2 and 3 - 0, with 3 apart from 1 and 2.
        int[] ends = {0, 1, 0, 2, 1, 2, 0, 3};
        int[] proof = {1, 0, 3, 0, 1, 1, 2, 0, 3, 1, 4, 4};
        Expect.due("check(2)", tellAll(Graphs.of(4, ends), proof).check(2), -1);
        for (int bad : new int[] {-1, 1, 2, 3, 4, 30, 32, Integer.MIN_VALUE, Integer.MAX_VALUE}) {
            ColourProof x = tellAll(Graphs.of(4, ends), proof);
            x.alter(3, 2, bad);
            Expect.due("check(2) with BLOCK " + bad, x.check(2), 3);
        }
        ColourProof x = tellAll(Graphs.of(4, ends), proof);
        x.alter(3, 3, 0);
        Expect.due("check(2): TRY for BLOCK", x.check(2), 3);
        x.alter(3, 1, 0);
        Expect.due("check(2): BRANCH for BLOCK", x.check(2), 3);
        x.alter(3, 4, 4);
        Expect.due("check(2): CLOSE for BLOCK", x.check(2), 3);
        // Each neighbour with the colour may be named, not the least alone; one that is no neighbour may not.
        for (int w = 0; w < 3; w++) {
            x = tellAll(Graphs.of(4, 0, 3, 1, 3), 1, 0, 3, 0, 1, 1, 3, 0, 1, 2, 3, 0, 1, 3, 2, w);
            Expect.due("check(1) with BLOCK " + w, x.check(1), w == 2 ? 7 : -1);
        }
        x = tellAll(Graphs.of(2, 0, 1), 1, 0, 2, 1);
        Expect.due("check(1): BLOCK by a vertex without a colour", x.check(1), 1);
    }

    private static void checkForgetsColoursOnTheWayBack() {
        // The triangle of 4, 5 and 6 closes everywhere with two colours. 2 has the colour 1 for lines 7 and 8 alone.
        ColourProof x = tellAll(Graphs.of(7, 3, 1, 3, 2, 4, 5, 4, 6, 5, 6),
                1, 0, 3, 0, 1, 1, 3, 0, 1, 2, 3, 0, 4, 112, 3, 1, 4, 112, 3, 1, 1, 3, 3, 0, 4, 112, 2, 1);
        Expect.due("check(2): BLOCK by a vertex with the colour", x.check(2), -1);
        x.alter(13, 2, 2);
        Expect.due("check(2): BLOCK by a vertex that had the colour", x.check(2), 13);
        x.alter(13, 3, 1);
        Expect.due("check(2): TRY of a colour that is blocked", x.check(2), 13);
        // Behind a TRY a proof is wanted first, not what the branch wants behind that.
        x = tellAll(Graphs.of(7, 0, 1, 4, 5, 4, 6, 5, 6), 1, 0, 3, 0, 1, 2, 3, 0, 3, 1, 4, 112);
        Expect.due("check(2): TRY where a proof is due", x.check(2), 4);
        x = tellAll(Graphs.of(7, 0, 1, 1, 2, 4, 5, 4, 6, 5, 6), 1, 0, 3, 0, 1, 2, 3, 0, 4, 112, 3, 1, 1, 1, 2, 0, 2, 2);
        Expect.due("check(2): BLOCKS of two", x.check(2), -1);
        x = tellAll(Graphs.of(7, 0, 1, 4, 5, 4, 6, 5, 6), 1, 0, 3, 0, 1, 2, 3, 0, 1, 1, 2, 0, 3, 1, 2, 0);
        Expect.due("check(2): BLOCK where a proof is due", x.check(2), 7);
    }

    private static void checkTries() {
        int[] ends = {0, 1, 0, 2, 1, 2};
        int[] proof = {1, 0, 3, 0, 1, 1, 2, 0, 3, 1, 4, 4};
        for (int bad : new int[] {-1, 1, 2, 32, Integer.MIN_VALUE, Integer.MAX_VALUE}) {
            ColourProof x = tellAll(Graphs.of(3, ends), proof);
            x.alter(1, 3, bad);
            Expect.due("check(2) with TRY " + bad, x.check(2), 1);
        }
        ColourProof x = tellAll(Graphs.of(3, ends), proof);
        x.alter(4, 2, 0);
        Expect.due("check(2): BLOCK for TRY", x.check(2), 4);
        x.alter(4, 3, 0);
        Expect.due("check(2): TRY of a colour that is blocked", x.check(2), 4);
        x.alter(4, 3, 2);
        Expect.due("check(2): TRY of a colour that is not next", x.check(2), 4);
        // The first vertex has the colour 0 alone to try, whatever k is; the second 0 and 1.
        x = tellAll(Graphs.of(2), 1, 0, 3, 0, 1, 1, 3, 0);
        Expect.due("check(2): TRY 0, then all have colours", x.check(2), 4);
        x = tellAll(Graphs.of(3, 1, 2), 1, 0, 3, 0, 3, 1);
        Expect.due("check(2): no second TRY for the first", x.check(2), 2);
        // Colours above those that stand need no TRY, so that with k = 3 the triangle of 1, 2, 3 is done like this:
        x = tellAll(Graphs.of(5, 1, 2, 1, 3, 1, 4, 2, 3, 2, 4, 3, 4), 1, 0, 3, 0, 4, 30);
        Expect.due("check(3): one TRY for the first", x.check(3), -1);
        Expect.due("check(4)", x.check(4), 2);
    }

    private static void checkCloses() {
        ColourProof x = Graphs.of(30, 0, 1, 0, 2, 1, 2, 2, 3);
        int[][] rows = {
            {0, 2, 0}, {7, 2, -1}, {7, 3, 0}, {3, 2, 0}, {3, 1, -1}, {1, 1, 0}, {1, 0, -1}, {15, 2, 0}, {13, 2, 0},
            {14, 2, 0}, {12, 1, -1}, {9, 1, 0}, {1 << 29, 0, -1}, {1 << 30, 0, 0}, {Integer.MIN_VALUE, 0, 0},
            {-1, 0, 0}, {7 + (1 << 30), 0, 0}, {7 + Integer.MIN_VALUE, 0, 0}, {Integer.MAX_VALUE, 0, 0}};
        for (int[] row : rows) {
            Expect.due("check(" + row[1] + ") of CLOSE " + row[0], tellAll(x, 4, row[0]).check(row[1]), row[2]);
        }
        x = Graphs.complete(3);
        Expect.due("CLOSE of what is no vertex", tellAll(x, 4, 15).check(0), 0);
        Expect.due("CLOSE of a vertex with a colour", tellAll(x, 1, 0, 3, 0, 4, 7).check(2), 2);
        Expect.due("CLOSE of the others", tellAll(x, 1, 0, 3, 0, 4, 6).check(2), -1);
        Expect.due("CLOSE of one", tellAll(x, 1, 0, 3, 0, 4, 4).check(2), 2);
        Expect.due("CLOSE of one without a free colour", tellAll(x, 1, 0, 3, 0, 4, 4).check(1), -1);
        // Free for at least one of them: 1 and 2 are neighbours, but 2 alone sees the colour of 0.
        x = Graphs.of(3, 1, 2, 0, 2);
        Expect.due("free for one is enough", tellAll(x, 1, 0, 3, 0, 4, 6).check(2), 2);
        x = Graphs.complete(30);
        Expect.due("check(29) of all", tellAll(x, 4, (1 << 30) - 1).check(29), -1);
        Expect.due("check(30) of all", tellAll(x, 4, (1 << 30) - 1).check(30), 0);
    }

    private static void checkEnds() {
        Expect.due("check(0) of none", new ColourProof().check(0), 0);
        Expect.due("check(3) of none", Graphs.of(3).check(3), 0);
        ColourProof x = tellAll(Graphs.complete(2), 4, 3, 4, 3);
        Expect.due("check(1): a line more", x.check(1), 1);
        x.tell(1, 0);
        Expect.due("check(1): two lines more", x.check(1), 1);
        x = Graphs.ring(5);
        x.search(2);
        for (int n = 8; n >= 0; n--) {
            x.cut(n);
            Expect.due("check(2) of the first " + n, x.check(2), n);
        }
        x = Graphs.ring(5);
        x.search(2);
        x.tell(2, 0);
        Expect.due("check(2): a line behind the proof", x.check(2), 9);
        // A log that is wrong on its last line, with all said before it good.
        x = tellAll(Graphs.ring(5), 1, 0, 3, 0, 1, 1, 2, 0, 3, 1, 1, 2, 3, 0, 4, 8);
        Expect.due("check(2): the last line", x.check(2), 7);
        // What a found search has written can stand, and ends too soon.
        x.search(3);
        Expect.due("check(3) of a found search", x.check(3), 14);
    }

    private static void checkUsesTheGraphAsItIs() {
        ColourProof x = Graphs.complete(3);
        x.solve();
        x.take();
        Expect.due("check(2)", x.check(2), -1);
        x.edge(0, 1, false);
        Expect.due("check(2) without an edge", x.check(2), 0);
        x.edge(0, 1, true);
        Expect.due("check(2) with it again", x.check(2), -1);
        Expect.due("check(2) twice", x.check(2), -1);
        x.graph(2);
        Expect.due("check(2) of fewer vertices", x.check(2), 0);
        Expect.due("told(0, 1) stays", x.told(0, 1), 7);
    }

    private static void checkGoesDeep() {
        // All 30 vertices without edges get colours one behind the other, and the log can't end well.
        ColourProof x = Graphs.of(30);
        for (int v = 0; v < 30; v++) {
            x.tell(1, v);
            x.tell(3, 0);
        }
        Expect.due("check(30)", x.check(30), 60);
        x.tell(4, 1);
        Expect.due("check(30) with a CLOSE", x.check(30), 60);
        x.alter(60, 1, 0);
        Expect.due("check(30) with a BRANCH", x.check(30), 60);
        x = Graphs.complete(30);
        for (int v = 0; v < 30; v++) {
            x.tell(1, v);
            for (int w = 0; w < v && w < 12; w++) {
                x.tell(2, w);
            }
            if (v < 12) {
                x.tell(3, v);
            } else {
                break;
            }
        }
        Expect.due("check(12)", x.check(12), -1);
    }
}
