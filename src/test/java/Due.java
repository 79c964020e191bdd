/** Counts the answers that are not as due. */
final class Due {
    private static int asked = 0;
    private static int wrong = 0;
    private static String about = "";

    private Due() {
    }

    static void about(String what) {
        about = what;
    }

    static void due(long got, long want) {
        due("", got, want);
    }

    static void due(String call, long got, long want) {
        asked++;
        if (got != want) {
            wrong++;
            StackTraceElement[] calls = new Throwable().getStackTrace();
            int line = 0;
            for (StackTraceElement e : calls) {
                if (!e.getMethodName().equals("due")) {
                    line = e.getLineNumber();
                    break;
                }
            }
            System.out.println(about + ", line " + line + ": " + call + " answered " + got + ", due is " + want);
        }
    }

    static void fault(String what) {
        asked++;
        wrong++;
        System.out.println(about + ": " + what);
    }

    static void finish() {
        System.out.println(asked + " looked at, " + wrong + " wrong");
        if (wrong != 0) {
            System.exit(1);
        }
    }
}
