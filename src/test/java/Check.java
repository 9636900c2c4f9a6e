/** Prints every call whose answer is not the one that is due; ends with exit code 1 if there was one. */
final class Check {
    private static int wrong;
    private static int asked;
    private static String about = "";

    private Check() {
    }

    /** The words of the document that all that follows is about; empty: none. */
    static void about(String words) {
        about = words.isEmpty() ? "" : "\"" + words + "\": ";
    }

    static void due(String call, long got, long want) {
        asked++;
        if (got != want) {
            wrong++;
            if (wrong <= 50) {
                System.out.println(about + call + " answered " + got + ", due is " + want);
            }
        }
    }

    static void due(String call, boolean got, boolean want) {
        due(call, got ? 1 : 0, want ? 1 : 0);
    }

    static boolean isGood() {
        return wrong == 0;
    }

    static void end() {
        if (wrong > 0 || asked == 0) {
            System.out.println(wrong + " of " + asked + " answers are wrong");
            System.exit(1);
        }
    }
}
