/** Counts answers that are not as due, and prints them. */
final class Due {
    /** One fault can make thousands of answers wrong: the first of them tell enough. */
    private static final int MOST_PRINTED = 20;
    private static int checked = 0;
    private static int wrong = 0;
    private static int wrongHere = 0;
    private static String at = "";

    private Due() {
    }

    /** What is printed ahead of each wrong answer from now on. */
    static void at(String where) {
        at = where;
        wrongHere = 0;
    }

    static void due(String call, long got, long want) {
        checked++;
        if (got != want) {
            tell(call + " answered " + got + ", due is " + want);
        }
    }

    static void holds(String what, boolean so) {
        checked++;
        if (!so) {
            tell("does not hold: " + what);
        }
    }

    private static void tell(String what) {
        wrong++;
        wrongHere++;
        if (wrongHere <= MOST_PRINTED) {
            System.out.println(at + what);
        }
    }

    static int checked() {
        return checked;
    }

    static boolean anyWrong() {
        return wrong > 0;
    }

    static void end() {
        System.out.println(checked + " checked, " + wrong + " wrong");
        if (wrong > 0 || checked == 0) {
            System.exit(1);
        }
    }
}
