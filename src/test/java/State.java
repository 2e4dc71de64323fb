/**
 * All that calls can tell of an object, as texts that can be compared. There are several of them, and each wants an
 * object of its own, since one is used for 512 calls at most.
 */
enum State {
    GRAPH {
        @Override
        String of(ColourProof x) {
            StringBuilder text = new StringBuilder("n = " + x.count(0) + ", edges");
            for (int a = 0; a < x.count(0); a++) {
                for (int b = a + 1; b < x.count(0); b++) {
                    text.append(x.has(a, b) ? " " + a + "-" + b : "");
                }
            }
            return text.toString();
        }
    },

    SOLVED {
        @Override
        String of(ColourProof x) {
            int lines = x.lines();
            StringBuilder text = new StringBuilder("lines = " + lines + ", work");
            for (int what = 0; what < 5; what++) {
                text.append(" ").append(x.work(what));
            }
            text.append(", colours");
            for (int v = 0; v < 30; v++) {
                text.append(" ").append(x.colour(v));
            }
            text.append(", log");
            for (int i = 0; i < 200 && i < lines; i++) {
                text.append(" ").append(x.line(i, 0)).append(":").append(x.line(i, 1));
            }
            return text.toString();
        }
    },

    TOLD {
        @Override
        String of(ColourProof x) {
            int lines = toldLines(x);
            StringBuilder text = new StringBuilder("told lines = " + lines + ", log");
            for (int i = 0; i < 200 && i < lines; i++) {
                text.append(" ").append(x.told(i, 0)).append(":").append(x.told(i, 1));
            }
            text.append(", told colours");
            for (int v = 0; v < 30; v++) {
                int colour = x.paint(v, -1);
                x.paint(v, colour);
                text.append(" ").append(colour);
            }
            return text.toString();
        }
    };

    abstract String of(ColourProof x);

    /** How many lines the told log has; by halves, since no call tells it without changing something. */
    static int toldLines(ColourProof x) {
        int least = 0;
        int most = 3000;
        while (least < most) {
            int middle = (least + most + 1) / 2;
            if (x.told(middle - 1, 0) == -1) {
                most = middle - 1;
            } else {
                least = middle;
            }
        }
        return least;
    }
}
