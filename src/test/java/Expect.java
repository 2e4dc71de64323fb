/** Counts and prints the answers that are not the ones that are due. */
final class Expect {
    private static int wrong = 0;
    private static int seen = 0;
    private static String sentence = "";

    private Expect() {
    }

    /** The sentence of the document that the answers from here on are due by. */
    static void by(String words) {
        sentence = "'" + words + "': ";
    }

    static void due(String call, long got, long want) {
        seen++;
        if (got != want) {
            wrong++;
            System.out.println(sentence + call + " answered " + got + ", due is " + want);
        }
    }

    static void due(String call, boolean got, boolean want) {
        due(call, got ? 1 : 0, want ? 1 : 0);
    }

    static void end() {
        System.out.println(wrong == 0 ? seen + " answers are as due" : wrong + " answers are not as due");
        if (wrong != 0 || seen == 0) {
            System.exit(1);
        }
    }
}
