import java.util.Set;

/**
 * Runs of calls written as texts, a line each: "put 0 0 1 = 1", "take 0 0 = ISE" for a call that throws, or
 * "turn = ok" for a call that throws nothing, whatever it answers. Each call that throws, and each look, is done once
 * more on an object with the same calls before; all that this one tells then, its saved states too, must be what it
 * would have told without the call.
 */
final class Script {
    private static final Set<String> LOOKS = Set.of("firstError", "stack", "block", "picture", "elevation", "cut",
        "count", "ifPut", "ifHour", "brightest", "same", "bestTurn", "seenShare", "digest");

    private final Checks checks;

    Script(Checks checks) {
        this.checks = checks;
    }

    /** Makes a new object and does all calls of the text on it. */
    Run run(String title, String text) {
        Run run = new Run();
        go(title, run, text);
        return run;
    }

    void go(String title, Run run, String text) {
        int line = 0;
        for (String row : text.split("\n")) {
            line++;
            if (!row.isBlank()) {
                String[] sides = row.split(" = ");
                check(title + ", line " + line + ": " + sides[0].trim(), run, sides[0].trim(), sides[1].trim());
            }
        }
    }

    private void check(String what, Run run, String call, String due) {
        String want = inFull(due);
        String got = run.told(call);
        if (want.equals("ok")) {
            checks.same(what + " throws", "false", String.valueOf(got.startsWith("throws.")));
        } else {
            checks.same(what, want, got);
        }
        if (want.startsWith("throws.") || LOOKS.contains(call.split(" ")[0])) {
            String without = run.again(run.length() - 1).whole();
            checks.same(what + " left the state", without, run.again(run.length()).whole());
        }
    }

    private static String inFull(String due) {
        switch (due) {
            case "IOOBE": return "throws.IndexOutOfBoundsException";
            case "IAE": return "throws.IllegalArgumentException";
            case "ISE": return "throws.IllegalStateException";
            default: return due;
        }
    }
}
