/**
 * Each sentence of the document's "Terms" that names a bound, in the document's order, with a test of its own: what
 * holds just inside the bound, and what just outside it. The answers were found by hand.
 */
public final class TermsTest {
    private static final int SIZE = 6;
    private static final int MOST = 8;

    private final Checks checks = new Checks();
    private final Script script = new Script(checks);

    // ---- Terms

    private void callsOfAnObject() {
        StringBuilder text = new StringBuilder();
        for (int call = 1; call <= 511; call++) {
            text.append("hour ").append(call % 8).append(" = ").append((call - 1) % 8).append('\n');
        }
        script.run("An object is used for at most 512 calls", text + "hour 0 = 7\n");
    }

    private void sizes() {
        String title = "The yard has as many columns as rows, 2 to 6";
        for (int size = 2; size <= SIZE; size++) {
            int last = size - 1;
            script.run(title + ": " + size, """
                begin %1$d = %3$d
                count 0 = %1$d
                put %2$d %2$d 0 = 1
                put %2$d 0 0 = 1
                put 0 %2$d 0 = 1
                put %1$d %2$d 0 = IOOBE
                put %2$d %1$d 0 = IOOBE
                put %1$d 0 0 = IOOBE
                put 0 %1$d 0 = IOOBE
                put %1$d %1$d 0 = IOOBE
                elevation 0 %2$d 2 = 2
                elevation 1 %2$d 2 = 2
                elevation 0 %1$d 2 = IOOBE
                elevation 1 %1$d 2 = IOOBE
                cut 0 %2$d = %4$d
                cut 0 %1$d = IOOBE
                count 1 = 3
                """.formatted(size, last, size * size, 1 | 1 << last));
        }
        script.run(title + ", not 1", "begin 1 = IAE\ncount 0 = 4");
        script.run(title + ", not 7", "begin 7 = IAE\ncount 0 = 4");
        script.run("The yard has as many columns as rows, at first 4", """
            count 0 = 4
            put 3 3 0 = 1
            put 4 3 0 = IOOBE
            put 3 4 0 = IOOBE
            """);
    }

    private void squares() {
        script.run("a square is told by x and y, both from 0", """
            put 0 0 1 = 1
            stack 0 0 0 = 1
            put -1 0 1 = IOOBE
            put 0 -1 1 = IOOBE
            put -1 -1 1 = IOOBE
            count 1 = 1
            """);
        script.run("a square is told by x and y, in this order", """
            put 2 1 3 = 1
            stack 2 1 1 = 3
            stack 1 2 1 = -1
            block 2 1 0 0 = 3
            block 1 2 0 0 = -1
            ifPut 2 1 1 = 2
            ifPut 1 2 1 = 0
            """);
    }

    private void stacks() {
        script.run("On each square is a stack of 0 to 8 blocks", """
            stack 1 2 0 = 0
            take 1 2 = ISE
            puts 1 2 7 = 7
            put 1 2 1 = 8
            put 1 2 1 = ISE
            stack 1 2 0 = 8
            count 1 = 8
            count 10 = 8
            """);
        script.run("a block has a height z, from 0 (on the ground)", """
            block 0 0 0 4 = -1
            put 0 0 0 = 1
            block 0 0 0 4 = 1
            block 0 0 -1 4 = IAE
            picture -1 -1 0 2 = 0
            puts 0 0 7 = 8
            block 0 0 7 4 = 1
            picture -8 -8 0 2 = 7
            block 0 0 8 4 = IAE
            """);
    }

    private void colours() {
        script.run("a block has a colour, 0 to 3: put", """
            put 0 0 0 = 1
            put 0 0 3 = 2
            put 0 0 -1 = IAE
            put 0 0 4 = IAE
            block 0 0 0 0 = 0
            block 0 0 1 0 = 3
            block 0 0 2 0 = -1
            """);
        script.run("a block has a colour, 0 to 3: paint", """
            put 0 0 1 = 1
            paint 0 0 0 = 1
            paint 0 0 3 = 0
            paint 0 0 -1 = IAE
            paint 0 0 4 = IAE
            stack 0 0 1 = 3
            """);
        script.run("a block has a colour, 0 to 3: in a text", """
            type 00+03 = 5
            append 52 = 6
            firstError = 5
            build = IAE
            clearBuffer = 6
            type 00+03 = 5
            build = 1
            block 0 0 0 0 = 0
            block 0 0 1 0 = 3
            """);
    }

    // ---- The picture

    /** Blocks at the bounds of the yard and of the stacks among them. */
    private void hiddenBehind() {
        String title = "block (x, y, z) hides all of block (x - 1, y - 1, z - 1)";
        for (int x = 1; x < SIZE; x++) {
            for (int y = 1; y < SIZE; y++) {
                for (int z = 1; z < MOST; z++) {
                    SlantYard yard = new SlantYard();
                    yard.begin(SIZE);
                    fill(yard, x - 1, y - 1, z);
                    fill(yard, x, y, z);
                    String block = title + " of " + x + " " + y + " " + z;
                    told(block + ", not there", yard, x - 1, y - 1, z - 1, new int[] {2, 1, 1, 1});
                    fill(yard, x, y, 1);
                    told(block, yard, x - 1, y - 1, z - 1, new int[] {0, 0, 0, 0});
                }
            }
        }
    }

    private void told(String title, SlantYard yard, int x, int y, int z, int[] due) {
        for (int k = 0; k < due.length; k++) {
            int what = k + 1;
            checks.due(title + ", block with " + what, due[k], () -> yard.block(x, y, z, what));
        }
    }

    private static void fill(SlantYard yard, int x, int y, int blocks) {
        for (int k = 0; k < blocks; k++) {
            yard.put(x, y, 0);
        }
    }

    /** The topmost block of a lonely stack is seen by all its triangles. */
    private void sixTriangles() {
        for (int x = 0; x < SIZE; x++) {
            for (int y = 0; y < SIZE; y++) {
                SlantYard yard = new SlantYard();
                yard.begin(SIZE);
                for (int z = 0; z < MOST; z++) {
                    yard.put(x, y, z % 4);
                    int p = x - z;
                    int q = y - z;
                    int[] block = {x, y, z};
                    shows(yard, p - 1, q - 1, 0, block, 0);
                    shows(yard, p - 1, q - 1, 1, block, 0);
                    shows(yard, p, q - 1, 1, block, 1);
                    shows(yard, p, q, 0, block, 1);
                    shows(yard, p - 1, q, 0, block, 2);
                    shows(yard, p, q, 1, block, 2);
                    showsNothing(yard, p, q - 1, 0);
                    showsNothing(yard, p - 1, q, 1);
                    showsNothing(yard, p - 1, q - 2, 1);
                    showsNothing(yard, p - 2, q - 1, 0);
                }
            }
        }
    }

    private void shows(SlantYard yard, int i, int j, int half, int[] block, int face) {
        int[] due = {block[0], block[1], block[2], face, block[2] % 4};
        for (int k = 0; k < due.length; k++) {
            int what = k;
            checks.due("the three faces of a block cover six triangles: " + i + " " + j + " " + half + " " + what,
                due[k], () -> yard.picture(i, j, half, what));
        }
    }

    private void showsNothing(SlantYard yard, int i, int j, int half) {
        if (i >= -9 && j >= -9) {
            checks.due("no other triangle, such as " + i + " " + j + " " + half, -1, () -> yard.picture(i, j, half, 0));
        }
    }

    private void nearest() {
        String title = "of all blocks that cover it the one with the greatest x + y + z";
        script.run(title + ", the nearer ones last", """
            picture 0 0 0 3 = -1
            put 0 0 1 = 1
            picture 0 0 0 0 = 0
            picture 0 0 0 3 = 1
            put 1 0 2 = 1
            picture 0 0 0 0 = 1
            picture 0 0 0 3 = 2
            put 1 1 3 = 1
            picture 0 0 0 1 = 1
            picture 0 0 0 3 = 0
            take 1 1 = 3
            picture 0 0 0 1 = 0
            picture 0 0 0 3 = 2
            take 1 0 = 2
            picture 0 0 0 3 = 1
            take 0 0 = 1
            picture 0 0 0 3 = -1
            """);
        script.run(title + ", the nearer ones first", """
            put 1 1 3 = 1
            picture 0 0 0 3 = 0
            put 1 0 2 = 1
            picture 0 0 0 3 = 0
            put 0 0 1 = 1
            picture 0 0 0 3 = 0
            picture 0 0 0 4 = 3
            picture 0 0 1 1 = 1
            picture 0 -1 1 0 = 1
            picture 0 -1 1 3 = 0
            picture -1 0 0 0 = 0
            picture -1 0 0 3 = 2
            """);
        script.run(title + ", three in one line of sight", """
            puts 0 0 1 = 1
            puts 1 1 2 = 2
            puts 2 2 3 = 3
            picture -1 -1 1 2 = 2
            take 2 2 = 0
            picture -1 -1 1 2 = 1
            take 1 1 = 0
            picture -1 -1 1 2 = 0
            """);
    }

    private void trianglesOfFaces() {
        script.run("A face is seen by as many of its triangles as are so, 0 to 2", """
            put 0 0 2 = 1
            block 0 0 0 1 = 2
            block 0 0 0 2 = 2
            block 0 0 0 3 = 2
            put 1 1 0 = 1
            block 0 0 0 1 = 2
            block 0 0 0 2 = 1
            block 0 0 0 3 = 1
            put 1 0 0 = 1
            block 0 0 0 1 = 2
            block 0 0 0 2 = 0
            block 0 0 0 3 = 1
            put 0 1 0 = 1
            block 0 0 0 1 = 2
            block 0 0 0 2 = 0
            block 0 0 0 3 = 0
            put 1 0 0 = 2
            block 0 0 0 1 = 1
            put 0 1 0 = 2
            block 0 0 0 1 = 0
            """);
        script.run("A block is seen if one of its faces is, be it by one triangle", """
            put 0 0 2 = 1
            puts 1 0 2 = 2
            put 0 1 0 = 1
            block 0 0 0 1 = 1
            block 0 0 0 2 = 0
            block 0 0 0 3 = 0
            block 0 0 0 4 = 1
            stack 0 0 3 = 1
            count 2 = 4
            put 0 1 0 = 2
            block 0 0 0 4 = 0
            stack 0 0 3 = 0
            count 2 = 4
            """);
    }

    // ---- Light

    private void hours() {
        script.run("There is an hour, 0 to 7, at first 0", """
            count 11 = 0
            hour 7 = 0
            count 11 = 7
            hour 8 = IAE
            hour -1 = IAE
            count 11 = 7
            hour 0 = 7
            count 11 = 0
            """);
    }

    private static final int[] TOWARDS_X = {+1, +1, 0, -1, -1, -1, 0, +1};
    private static final int[] TOWARDS_Y = {0, +1, +1, +1, 0, -1, -1, -1};
    private static final int[] STEEP = {1, 2, 3, 3, 2, 1, 1, 1};

    /** A stack in the middle shades the squares away from the sun: one from steep blocks on, two from twice as many. */
    private void sun() {
        for (int hour = 0; hour <= 7; hour++) {
            int steep = STEEP[hour];
            SlantYard yard = new SlantYard();
            yard.begin(5);
            yard.hour(hour);
            fill(yard, 2, 2, steep - 1);
            dark(yard, hour, 0);
            fill(yard, 2, 2, 1);
            dark(yard, hour, 1);
            fill(yard, 2, 2, steep - 1);
            dark(yard, hour, 1);
            fill(yard, 2, 2, 1);
            dark(yard, hour, 2);
        }
    }

    private void dark(SlantYard yard, int hour, int steps) {
        String title = "By the hours, the sun stands towards, and is so steep: hour " + hour + ", " + steps + " squares";
        checks.due(title, steps, () -> yard.count(9));
        checks.due(title, steps, () -> yard.ifHour(hour));
        for (int k = 1; k <= 2; k++) {
            int x = 2 - k * TOWARDS_X[hour];
            int y = 2 - k * TOWARDS_Y[hour];
            checks.due(title + ", " + x + " " + y, k <= steps ? 1 : 0, () -> yard.stack(x, y, 2));
        }
        checks.due(title + ", the stack itself", 0, () -> yard.stack(2, 2, 2));
    }

    private void shadows() {
        script.run("in shadow if, for some number k of steps, 1 or more: not for 0", """
            put 1 1 0 = 1
            stack 1 1 2 = 0
            stack 0 1 2 = 1
            stack 2 1 2 = 0
            count 9 = 1
            """);
        script.run("in shadow if, for some number k of steps: up to 5", """
            begin 6 = 36
            puts 5 0 4 = 4
            stack 0 0 2 = 0
            stack 1 0 2 = 1
            count 9 = 4
            put 5 0 0 = 5
            stack 0 0 2 = 1
            stack 4 0 2 = 1
            count 9 = 5
            """);
        script.run("at least k times steep higher than it", """
            hour 1 = 0
            puts 0 0 3 = 3
            puts 2 2 6 = 6
            stack 0 0 2 = 0
            put 2 2 0 = 7
            stack 0 0 2 = 1
            put 0 0 0 = 4
            stack 0 0 2 = 0
            put 2 2 0 = 8
            stack 0 0 2 = 1
            """);
        script.run("A stack (or an empty square) is in shadow", """
            puts 1 0 2 = 2
            stack 0 0 2 = 1
            put 0 0 0 = 1
            stack 0 0 2 = 1
            put 0 0 0 = 2
            stack 0 0 2 = 0
            """);
        script.run("whatever stands between", """
            puts 3 0 3 = 3
            stack 0 0 2 = 1
            puts 0 0 2 = 2
            stack 0 0 2 = 0
            puts 3 0 2 = 5
            stack 0 0 2 = 1
            puts 1 0 2 = 2
            puts 2 0 2 = 2
            stack 0 0 2 = 1
            take 3 0 = 0
            stack 0 0 2 = 0
            """);
        script.run("no shadow from beyond the yard", """
            puts 0 0 8 = 8
            hour 4 = 0
            count 9 = 3
            stack 0 1 2 = 0
            stack 3 3 2 = 0
            hour 0 = 4
            count 9 = 0
            """);
    }

    // ---- Elevations, cuts

    private void elevations() {
        script.run("The elevation from the side of x tells for each y, that from the side of y for each x", """
            puts 3 1 2 = 2
            puts 0 1 5 = 5
            puts 0 2 1 = 1
            elevation 0 0 0 = 0
            elevation 0 1 0 = 5
            elevation 0 2 0 = 1
            elevation 0 3 0 = 0
            elevation 1 0 0 = 5
            elevation 1 1 0 = 0
            elevation 1 2 0 = 0
            elevation 1 3 0 = 2
            """);
        script.run("(The height of a stack is how many blocks it has.)", """
            stack 1 1 0 = 0
            put 1 1 0 = 1
            stack 1 1 0 = 1
            block 1 1 0 4 = 1
            block 1 1 1 4 = -1
            puts 1 1 7 = 8
            stack 1 1 0 = 8
            block 1 1 7 4 = 1
            elevation 0 1 0 = 8
            """);
        script.run("A cut at a height z tells the squares whose stack has a block there", """
            puts 1 0 1 = 1
            puts 2 0 2 = 2
            puts 3 0 8 = 8
            cut 0 0 = 14
            cut 1 0 = 12
            cut 2 0 = 8
            cut 7 0 = 8
            """);
    }

    // ---- Input text

    private void longestBuffer() {
        script.run("The buffer has at most 60 characters", """
            type 00+00000000;10+00000000;20+00000000;30+00000000;01+00000000 = 59
            append 48 = 60
            append 48 = ISE
            firstError = 60
            clearBuffer = 60
            append 48 = 1
            """);
        script.run("A text of 60 characters, 12 orders", """
            type 00+1;10+1;20+1;30+1;01+1;11+1;21+1;31+1;02+1;12+1;22+1;32+12 = 60
            build = 12
            count 1 = 13
            stack 3 2 1 = 2
            clearBuffer = 0
            """);
        script.run("A text of 60 characters, one order", """
            type 00+012301230123012301230123012301230123012301230123012301230 = 60
            firstError = 60
            build = 0
            count 1 = 0
            """);
    }

    /** All that may come next behind each way in which a text may stop. */
    private void syntax() {
        String colours = "0123";
        String digits = "012345";
        next("one or more orders, a square, x, a digit, 0 to 5", "", digits);
        next("y, a digit, 0 to 5", "0", digits);
        next("y, a digit, 0 to 5", "5", digits);
        next("and then + or -", "00", "+-");
        next("and then + or -", "55", "+-");
        next("+ and one or more colours, 0 to 3", "00+", colours);
        next("or more colours, with ; between the orders", "00+0", colours + ";");
        next("or more colours, with ; between the orders", "00+3210", colours + ";");
        next("more than 8 colours are no matter of syntax", "00+0123012301", colours + ";");
        next("- and how many, 1 to 8", "00-", "12345678");
        next("how many is one digit, with ; between the orders", "00-1", ";");
        next("how many is one digit, with ; between the orders", "00-8", ";");
        next("behind ; another order", "00+0;", digits);
        next("behind ; another order", "00-8;", digits);
        next("behind ; another order", "00+0;5", digits);
        next("behind ; another order", "00+0;55", "+-");
        next("behind ; another order", "00+0;55-1", ";");
        next("nothing mends an error", "6", "");
        next("nothing mends an error", "00+4;", "");
    }

    private void next(String title, String start, String allowed) {
        SlantYard before = new SlantYard();
        for (int index = 0; index < start.length(); index++) {
            before.append(start.charAt(index));
        }
        int error = before.firstError();
        checks.due(title + ": " + start, allowed.isEmpty() ? "an error" : "none",
            () -> error < start.length() ? "an error" : "none");
        for (int code = 33; code <= 126; code++) {
            SlantYard yard = new SlantYard();
            for (int index = 0; index < start.length(); index++) {
                yard.append(start.charAt(index));
            }
            yard.append(code);
            boolean right = allowed.indexOf(code) >= 0;
            checks.due(title + ": " + start + " and then " + (char) code, right ? start.length() + 1 : error,
                yard::firstError);
        }
    }

    private void textOfAnyLength() {
        script.run("no yard as a text, of any length, begins so: 60 characters that only a longer one begins with", """
            type 00+1;10+1;20+1;30+1;01+1;11+1;21+1;31+1;02+1;12+1;22+1;32+1; = 60
            firstError = 60
            build = IAE
            clearBuffer = 60
            """);
        script.run("a syntax error, the 60th character", """
            type 00+1;10+1;20+1;30+1;01+1;11+1;21+1;31+1;02+1;12+1;22+1;32+1x = 60
            firstError = 59
            build = IAE
            clearBuffer = 60
            """);
        script.run("Whether there is such a square is no matter of syntax", """
            begin 2 = 4
            type 11+1;55+1 = 9
            firstError = 9
            build = 1
            type 55-1 = 4
            firstError = 4
            build = 0
            clearBuffer = 0
            """);
    }

    // ---- Undo

    /** Each call is done on an object on which it changes nothing, if there is such a one. */
    private void saves() {
        String title = "Each method that is marked undoable saves the state, also if it changes nothing: ";
        undoable(title, "", "begin 4 = 16");
        undoable(title, "", "put 0 0 0 = 1");
        undoable(title, "put 0 0 3 = 1\n", "take 0 0 = 3");
        undoable(title, "", "carry 0 0 3 3 = 0");
        undoable(title, "put 0 0 2 = 1\n", "carry 3 3 0 0 = 1");
        undoable(title, "put 0 0 2 = 1\n", "paint 0 0 2 = 2");
        undoable(title, "", "turn = 0");
        undoable(title, "", "cutOff 0 = 0");
        undoable(title, "put 0 0 2 = 1\n", "cutOff 1 = 0");
        undoable(title, "", "hour 0 = 0");
        undoable(title, "type 00-1 = 4\n", "build = 0");
        undoable(title, "type 00+1;00-1 = 9\n", "build = 2");
        String other = "A method that is not marked undoable saves nothing: ";
        notUndoable(other, "append 48 = 1");
        notUndoable(other, "clearBuffer = 0");
        notUndoable(other, "firstError = 0");
        notUndoable(other, "ifPut 0 0 0 = 101");
        notUndoable(other, "ifHour 7 = 0");
        notUndoable(other, "brightest = 0");
        notUndoable(other, "same 0 = 0");
        notUndoable(other, "bestTurn = 0");
        notUndoable(other, "seenShare = 1.0");
        notUndoable(other, "digest = ok");
        notUndoable(other, "stack 0 0 3 = 0");
        notUndoable(other, "block 0 0 0 0 = -1");
        notUndoable(other, "picture 0 0 0 0 = -1");
        notUndoable(other, "elevation 0 0 0 = 0");
        notUndoable(other, "cut 0 0 = 0");
        notUndoable(other, "count 2 = 0");
    }

    private void undoable(String title, String before, String call) {
        int saved = before.startsWith("put") ? 1 : 0;
        Run run = script.run(title + call, before + "count 12 = " + saved);
        String digest = run.again(run.length()).told("digest");
        boolean takesBuffer = call.startsWith("build");
        script.go(title + call, run, call + "\ncount 12 = " + (saved + 1) + "\nundo = " + saved);
        if (!takesBuffer) {
            script.go(title + call + ", undone", run, "digest = " + digest);
        }
    }

    private void notUndoable(String title, String call) {
        script.run(title + call, call + "\ncount 12 = 0\nundo = ISE");
        script.run(title + call, "hour 3 = 0\nput 3 3 1 = 1\ntake 3 3 = 1\nhour 0 = 3\n" + call
            + "\ncount 12 = 4\nundo = 3\ncount 11 = 3");
    }

    private void whatIsSaved() {
        script.run("saves the state from before it: all but the buffer and the saved states", """
            begin 3 = 9
            type 22+0123 = 7
            build = 1
            put 0 2 3 = 1
            hour 6 = 0
            type 1 = 1
            begin 5 = 25
            hour 2 = 6
            append 50 = 2
            count 12 = 6
            undo = 5
            undo = 4
            count 0 = 3
            count 1 = 5
            count 11 = 6
            stack 0 2 1 = 3
            block 2 2 0 0 = 0
            block 2 2 1 0 = 1
            block 2 2 2 0 = 2
            block 2 2 3 0 = 3
            append 43 = 3
            append 48 = 4
            clearBuffer = 4
            undo = 3
            count 11 = 0
            clearBuffer = 0
            """);
        script.run("Restoring a state does not fill the buffer that build cleared", """
            type 00+1 = 4
            build = 1
            undo = 0
            clearBuffer = 0
            build = IAE
            """);
    }

    private void mostSaved() {
        script.run("At most 6 states are saved: 6", """
            put 0 0 0 = 1
            put 0 0 0 = 2
            put 0 0 0 = 3
            put 0 0 0 = 4
            put 0 0 0 = 5
            count 12 = 5
            put 0 0 0 = 6
            count 12 = 6
            undo = 5
            undo = 4
            undo = 3
            undo = 2
            undo = 1
            undo = 0
            stack 0 0 0 = 0
            undo = ISE
            """);
        script.run("the oldest one is dropped first", """
            puts 0 0 7 = 7
            count 12 = 6
            undo = 5
            stack 0 0 0 = 6
            undo = 4
            undo = 3
            undo = 2
            undo = 1
            stack 0 0 0 = 2
            undo = 0
            stack 0 0 0 = 1
            undo = ISE
            stack 0 0 0 = 1
            """);
        script.run("the oldest one is dropped first, again and again", """
            puts 0 0 8 = 8
            puts 1 0 8 = 8
            puts 2 0 3 = 3
            undo = 5
            undo = 4
            puts 3 0 2 = 2
            count 12 = 6
            put 3 3 0 = 1
            count 12 = 6
            undo = 5
            undo = 4
            undo = 3
            undo = 2
            undo = 1
            undo = 0
            stack 1 0 0 = 6
            stack 2 0 0 = 0
            undo = ISE
            """);
        script.run("a refused call saves nothing and drops nothing", """
            puts 0 0 8 = 8
            put 0 0 0 = ISE
            put 4 0 0 = IOOBE
            take 1 1 = ISE
            hour 8 = IAE
            build = IAE
            undo = 5
            undo = 4
            undo = 3
            undo = 2
            undo = 1
            undo = 0
            stack 0 0 0 = 2
            """);
    }

    // ---- Exceptions

    private void severalExceptions() {
        String full = "puts 0 0 8 = 8\n";
        first("put", full, "put 4 0 4 = IOOBE\nput 0 -1 -1 = IOOBE\nput 0 0 4 = IAE\nput 0 0 -1 = IAE\nput 0 0 3 = ISE");
        first("take", full, "take 4 0 = IOOBE\ntake 3 0 = ISE");
        first("carry", full + "put 1 0 0 = 1\n", """
            carry 4 0 4 0 = IOOBE
            carry 0 -1 0 -1 = IOOBE
            carry 0 0 4 0 = IOOBE
            carry 0 4 1 0 = IOOBE
            carry 0 0 0 0 = ISE
            carry 0 0 1 0 = ISE
            """);
        first("paint", full, "paint 4 0 4 = IOOBE\npaint 0 4 -1 = IOOBE\npaint 1 0 4 = IAE\npaint 1 0 -1 = IAE\n"
            + "paint 1 0 3 = ISE");
        first("append", "type 00+1;10+1;20+1;30+1;01+1;11+1;21+1;31+1;02+1;12+1;22+1;32+1; = 60\n",
            "append 32 = IAE\nappend 127 = IAE\nappend 33 = ISE\nappend 126 = ISE");
        first("stack", full, "stack 4 0 4 = IOOBE\nstack 0 4 -1 = IOOBE\nstack 0 0 4 = IAE");
        first("block", full, "block 4 0 8 5 = IOOBE\nblock 0 -1 0 5 = IOOBE\nblock 0 4 8 0 = IOOBE\nblock 0 0 8 5 = IAE");
        first("elevation", full, "elevation 2 4 3 = IOOBE\nelevation 2 -1 0 = IOOBE\nelevation 0 4 3 = IOOBE\n"
            + "elevation 2 3 3 = IAE");
        first("cut", full, "cut 8 4 = IOOBE\ncut -1 -1 = IOOBE\ncut 8 3 = IAE");
        first("ifPut", full, "ifPut 4 0 3 = IOOBE\nifPut 0 -1 -1 = IOOBE\nifPut 0 0 3 = IAE\nifPut 0 0 2 = -1");
    }

    private void first(String name, String before, String calls) {
        script.run("If several exceptions apply, the one that is named first is thrown: " + name, before + calls);
    }

    /** Each way in which a call is refused, on an object with all that may get lost: blocks, an hour, a buffer, states. */
    private void refusedCalls() {
        String[] refused = {
            "begin 1 = IAE", "begin 7 = IAE",
            "put 3 0 0 = IOOBE", "put 0 0 4 = IAE", "put 0 0 3 = ISE",
            "take 0 3 = IOOBE", "take 1 0 = ISE",
            "carry 3 0 0 0 = IOOBE", "carry 0 0 0 3 = IOOBE", "carry 0 0 0 0 = ISE", "carry 2 2 0 0 = ISE",
            "paint -1 0 0 = IOOBE", "paint 0 0 4 = IAE", "paint 1 0 0 = ISE",
            "cutOff -1 = IAE", "cutOff 9 = IAE",
            "hour -1 = IAE", "hour 8 = IAE",
            "append 32 = IAE", "append 127 = IAE",
            "build = IAE",
            "stack 3 0 0 = IOOBE", "stack 0 0 4 = IAE",
            "block 3 0 0 0 = IOOBE", "block 0 0 8 0 = IAE", "block 0 0 0 5 = IAE",
            "picture -10 0 0 0 = IAE", "picture 0 7 0 0 = IAE", "picture 0 0 2 0 = IAE", "picture 0 0 0 5 = IAE",
            "elevation 0 3 0 = IOOBE", "elevation 2 0 0 = IAE", "elevation 0 0 3 = IAE",
            "cut 0 3 = IOOBE", "cut 8 0 = IAE",
            "count 13 = IAE",
            "ifPut 3 0 0 = IOOBE", "ifPut 0 0 3 = IAE",
            "ifHour 8 = IAE",
            "same 2 = IAE",
        };
        String few = """
            begin 3 = 9
            hour 5 = 0
            type 00+01230123;22+32 = 17
            build = 2
            type 00-1;11+1; = 10
            """;
        String many = few + "put 2 1 1 = 1\npaint 2 1 2 = 1\nturn = ok\nturn = ok\nturn = ok\nturn = ok\n";
        for (String call : refused) {
            script.run("A call that throws an exception changes nothing, 3 states: " + call, few + call + """

                count 12 = 3
                count 1 = 10
                firstError = 10
                clearBuffer = 10
                """);
            script.run("A call that throws an exception changes nothing, 6 states: " + call, many + call + """

                count 12 = 6
                count 1 = 11
                stack 2 1 1 = 2
                undo = 5
                undo = 4
                undo = 3
                undo = 2
                undo = 1
                stack 2 1 1 = 1
                undo = 0
                stack 2 1 1 = -1
                clearBuffer = 10
                """);
        }
        script.run("A call that throws an exception changes nothing: undo", """
            type 00 = 2
            undo = ISE
            count 0 = 4
            clearBuffer = 2
            """);
        script.run("A call that throws an exception changes nothing: append to a full buffer", """
            type 00+1;10+1;20+1;30+1;01+1;11+1;21+1;31+1;02+1;12+1;22+1;32+12 = 60
            append 51 = ISE
            build = 12
            stack 3 2 0 = 2
            """);
    }

    public static void main(String[] args) {
        TermsTest test = new TermsTest();
        test.callsOfAnObject();
        test.sizes();
        test.squares();
        test.stacks();
        test.colours();
        test.hiddenBehind();
        test.sixTriangles();
        test.nearest();
        test.trianglesOfFaces();
        test.hours();
        test.sun();
        test.shadows();
        test.elevations();
        test.longestBuffer();
        test.syntax();
        test.textOfAnyLength();
        test.saves();
        test.whatIsSaved();
        test.mostSaved();
        test.severalExceptions();
        test.refusedCalls();
        test.checks.end();
    }
}
