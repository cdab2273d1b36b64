/** Counts the answers that are not the due ones, and ends the test with 1 if there was one. */
final class Checks {
    /** A call that may answer or throw; what it answers is told as a text. */
    interface Call {
        Object run();
    }

    private static final int MOST_PRINTED = 50;
    private int checked = 0;
    private int wrong = 0;

    /** The answer as a text, or "throws." and the exception's name. */
    static String told(Call call) {
        try {
            return String.valueOf(call.run());
        } catch (RuntimeException e) {
            return "throws." + e.getClass().getSimpleName();
        }
    }

    void due(String what, Object want, Call call) {
        same(what, String.valueOf(want), told(call));
    }

    void throwsDue(String what, Class<?> want, Call call) {
        same(what, "throws." + want.getSimpleName(), told(call));
    }

    void same(String what, String want, String got) {
        checked++;
        if (!want.equals(got)) {
            wrong++;
            if (wrong <= MOST_PRINTED) {
                System.out.println(what + " answered " + got + ", due is " + want);
            }
        }
    }

    void end() {
        if (checked == 0) {
            wrong++;
            System.out.println("nothing was checked");
        }
        System.out.println(checked + " answers checked, " + wrong + " not as due");
        if (wrong != 0) {
            System.exit(1);
        }
    }
}
