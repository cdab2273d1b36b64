import java.lang.reflect.InvocationTargetException;
import java.lang.reflect.Method;

/**
 * Runs of calls written as texts, a line each: "put 0 0 1 = 1", or "take 0 0 = ISE" for a call that throws. Behind
 * each call that throws it is looked whether the state is as before.
 */
final class Script {
    private final Checks checks;

    Script(Checks checks) {
        this.checks = checks;
    }

    /** Makes a new object and does all calls of the text on it. */
    SlantYard run(String title, String text) {
        SlantYard yard = new SlantYard();
        go(title, yard, text);
        return yard;
    }

    void go(String title, SlantYard yard, String text) {
        int line = 0;
        for (String row : text.split("\n")) {
            line++;
            if (!row.isBlank()) {
                String[] sides = row.split(" = ");
                check(title + ", line " + line + ": " + sides[0].trim(), yard, sides[0].trim(), sides[1].trim());
            }
        }
    }

    private void check(String what, SlantYard yard, String call, String due) {
        long before = yard.digest();
        String got = told(yard, call.split(" "));
        String want = inFull(due);
        checks.same(what, want, got);
        if (want.startsWith("throws.")) {
            checks.same(what + " left the state", String.valueOf(before), String.valueOf(yard.digest()));
        }
    }

    private static String inFull(String due) {
        switch (due) {
            case "IOOBE": return "throws.IndexOutOfBoundsException";
            case "IAE": return "throws.IllegalArgumentException";
            case "ISE": return "throws.IllegalStateException";
            default: return due;
        }
    }

    private static String told(SlantYard yard, String[] words) {
        if (words[0].equals("type")) {
            return type(yard, words[1]);
        }
        Object[] arguments = new Object[words.length - 1];
        Class<?>[] types = new Class<?>[words.length - 1];
        for (int k = 0; k < arguments.length; k++) {
            arguments[k] = Integer.valueOf(words[k + 1]);
            types[k] = int.class;
        }
        try {
            Method method = SlantYard.class.getMethod(words[0], types);
            return String.valueOf(method.invoke(yard, arguments));
        } catch (InvocationTargetException e) {
            return "throws." + e.getCause().getClass().getSimpleName();
        } catch (ReflectiveOperationException e) {
            return "no such call: " + e;
        }
    }

    /** Appends all characters of a text, and tells the length then. */
    private static String type(SlantYard yard, String text) {
        int length = 0;
        for (int index = 0; index < text.length(); index++) {
            length = yard.append(text.charAt(index));
        }
        return String.valueOf(length);
    }
}
