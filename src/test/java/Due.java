/** Counts answers that are not as due, and prints them. */
final class Due {
    private static int checked = 0;
    private static int wrong = 0;

    private Due() {
    }

    static void due(String call, long got, long want) {
        checked++;
        if (got != want) {
            wrong++;
            System.out.println(call + " answered " + got + ", due is " + want);
        }
    }

    static void holds(String what, boolean so) {
        checked++;
        if (!so) {
            wrong++;
            System.out.println("does not hold: " + what);
        }
    }

    static boolean anyWrong() {
        return wrong > 0;
    }

    static void end() {
        System.out.println(checked + " checked, " + wrong + " wrong");
        if (wrong > 0 || checked == 0) {
            System.exit(1);
        }
    }
}
