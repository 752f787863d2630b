/** Counts the answers that are not the ones due, and prints the first of them. */
final class Check {
    private static final int PRINTED = 50;
    private static final int EXCERPT = 200;
    private static int wrong = 0;

    private Check() {
    }

    private static void note(String what, String got, String want) {
        wrong++;
        if (wrong <= PRINTED) {
            System.out.println(what + " answered " + got + ", due is " + want);
        }
    }

    static void due(String what, int got, int want) {
        if (got != want) {
            note(what, "" + got, "" + want);
        }
    }

    static void due(String what, boolean got, boolean want) {
        if (got != want) {
            note(what, "" + got, "" + want);
        }
    }

    static void due(String what, String got, String want) {
        if (!got.equals(want)) {
            int from = Math.max(firstDifference(got, want) - EXCERPT / 2, 0);
            note(what, excerpt(got, from), excerpt(want, from));
        }
    }

    private static int firstDifference(String got, String want) {
        int at = 0;
        while (at < got.length() && at < want.length() && got.charAt(at) == want.charAt(at)) {
            at++;
        }
        return at;
    }

    /** A whole state is too long to be read: what stands about the first difference is enough. */
    private static String excerpt(String text, int from) {
        String cut = text.substring(from, Math.min(from + EXCERPT, text.length()));
        return "\"" + (from > 0 ? ".. " : "") + cut + (from + EXCERPT < text.length() ? " .." : "") + "\"";
    }

    /** Ends the test, with exit code 1 if an answer was wrong. */
    static void end() {
        System.out.println(wrong == 0 ? "all answers are as due" : wrong + " answers are not as due");
        if (wrong != 0) {
            System.exit(1);
        }
    }
}
