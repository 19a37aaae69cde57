/** Counts answers that are not the ones that are due, and helps tests to type and to read texts. */
final class Check {
    private static int checked = 0;
    private static int wrong = 0;
    private static String about = "";

    private Check() {
    }

    /** What is told about the checks that follow, if one of them fails. */
    static void about(String what) {
        about = what;
    }

    static void due(String call, long got, long want) {
        checked++;
        if (got != want) {
            fail(call + " answered " + got + ", due is " + want);
        }
    }

    /** Floats and doubles are due to the last bit. */
    static void dueExactly(String call, double got, double want) {
        checked++;
        if (Double.doubleToLongBits(got) != Double.doubleToLongBits(want)) {
            fail(call + " answered " + got + ", due is " + want);
        }
    }

    static void dueText(String call, String got, String want) {
        checked++;
        if (!got.equals(want)) {
            fail(call + " answered \"" + got + "\", due is \"" + want + "\"");
        }
    }

    static void fail(String what) {
        wrong++;
        if (wrong <= 40) {
            System.out.println(about.isEmpty() ? what : what + "  [" + about + "]");
        }
    }

    static int wrongSoFar() {
        return wrong;
    }

    static void end() {
        System.out.println(checked + " answers looked at, " + wrong + " not as due");
        if (wrong != 0 || checked == 0) {
            System.exit(1);
        }
    }

    static void type(CartArguments x, String text) {
        for (int index = 0; index < text.length(); index++) {
            x.append(text.charAt(index));
        }
    }

    static int say(CartArguments x, String text) {
        type(x, text);
        return x.read();
    }

    static String line(CartArguments x) {
        StringBuilder line = new StringBuilder();
        for (int code = x.written(0); code != CartArguments.NONE; code = x.written(line.length())) {
            line.append((char) code);
        }
        return line.toString();
    }
}
