/** Holds answers against those that are due, and ends a test with exit code 1 if one was wrong. */
final class Check {
    private static int looked = 0;
    private static int wrong = 0;
    private static int sentences = 0;
    private static String sentence = "";

    private Check() {
    }

    /** What is looked at from now on tests this sentence of the document. */
    static void sentence(String words) {
        sentences++;
        sentence = words + ": ";
    }

    static void due(String call, long got, long want) {
        looked++;
        if (got != want) {
            wrong++;
            System.out.println(sentence + call + " answered " + got + ", due is " + want);
        }
    }

    static void due(String call, boolean got, boolean want) {
        due(call, bit(got), bit(want));
    }

    static int bit(boolean answer) {
        return answer ? 1 : 0;
    }

    static void end() {
        String of = sentences == 0 ? "" : sentences + " sentences, ";
        System.out.println(of + looked + " answers, " + wrong + " wrong");
        if (wrong != 0 || looked == 0) {
            System.exit(1);
        }
    }
}
