/**
 * Promise by promise: each argument from its least to its most and just outside, what is answered where there is
 * nothing to return, and the edges that the promise's sentences name. The answers were found by hand.
 */
public final class BoundsTest {
    private final Checks checks = new Checks();
    private final Script script = new Script(checks);

    // ---- ranges of arguments

    /** Blocks in all corners, an hour, a buffer, and six saved states, so that nothing that gets lost is overlooked. */
    private static String busy(int size) {
        int last = size - 1;
        return """
            begin %1$d = %3$d
            hour 3 = 0
            puts 0 0 3 = 3
            puts %2$d 0 2 = 2
            puts 0 %2$d 1 = 1
            puts %2$d %2$d 4 = 4
            type 11+3; = 5
            """.formatted(size, last, size * size);
    }

    /** The argument "?" of the call may be any from least to most; any other makes it throw. */
    private void range(String title, String before, String call, int least, int most, String exception) {
        int[] outside = {least - 1, most + 1, Integer.MIN_VALUE, Integer.MAX_VALUE, least - 64, most + 256};
        for (int value = least; value <= most; value++) {
            script.run(title + ", inside", before + call.replace("?", String.valueOf(value)) + " = ok\n");
        }
        StringBuilder refused = new StringBuilder();
        for (int value : outside) {
            refused.append(call.replace("?", String.valueOf(value))).append(" = ").append(exception).append('\n');
        }
        script.run(title + ", outside", before + refused);
    }

    private void argumentsThatAreNoSquares() {
        String busy = busy(4);
        range("2 size: 2 to 6", busy, "begin ?", 2, 6, "IAE");
        range("3 colour: 0 to 3", busy, "put 0 0 ?", 0, 3, "IAE");
        range("6 colour: 0 to 3", busy, "paint 0 0 ?", 0, 3, "IAE");
        range("8 z: 0 to 8", busy, "cutOff ?", 0, 8, "IAE");
        range("9 hour: 0 to 7", busy, "hour ?", 0, 7, "IAE");
        range("10 code: the character code, 33 to 126", busy, "append ?", 33, 126, "IAE");
        range("15 what: 0 to 3", busy, "stack 0 0 ?", 0, 3, "IAE");
        range("16 z: 0 to 7", busy, "block 0 0 ? 0", 0, 7, "IAE");
        range("16 what: 0 to 4", busy, "block 0 0 0 ?", 0, 4, "IAE");
        range("16 what: 0 to 4, of no block", busy, "block 1 1 7 ?", 0, 4, "IAE");
        range("17 i: -9 to 6", busy, "picture ? 0 0 0", -9, 6, "IAE");
        range("17 j: -9 to 6", busy, "picture 0 ? 1 3", -9, 6, "IAE");
        range("17 triangle: 0 or 1", busy, "picture 0 0 ? 0", 0, 1, "IAE");
        range("17 what: 0 to 4", busy, "picture 0 0 0 ?", 0, 4, "IAE");
        range("17 what: 0 to 4, where no block is", busy, "picture 6 -9 0 ?", 0, 4, "IAE");
        range("18 side: 0 or 1", busy, "elevation ? 0 0", 0, 1, "IAE");
        range("18 what: 0 to 2", busy, "elevation 0 0 ?", 0, 2, "IAE");
        range("19 z: 0 to 7", busy, "cut ? 0", 0, 7, "IAE");
        range("20 what: 0 to 12", busy, "count ?", 0, 12, "IAE");
        range("21 what: 0 to 2", busy, "ifPut 0 0 ?", 0, 2, "IAE");
        range("21 what: 0 to 2, with a full stack", busy + "puts 1 1 8 = 8\n", "ifPut 1 1 ?", 0, 2, "IAE");
        range("22 hour: 0 to 7", busy, "ifHour ?", 0, 7, "IAE");
        range("24 what: 0 or 1", busy, "same ?", 0, 1, "IAE");
    }

    private void squares() {
        for (int size = 2; size <= 6; size++) {
            String busy = busy(size);
            int last = size - 1;
            String corner = " " + last + " " + last;
            square("3 put", busy, "put ? 0 1", last);
            square("3 put", busy, "put 0 ? 1", last);
            square("3 put", busy, "put ? " + last + " 1", last);
            square("3 put", busy, "put " + last + " ? 1", last);
            square("4 take", one(busy, size, true), "take ? 0", last);
            square("4 take", one(busy, size, false), "take 0 ?", last);
            square("5 carry, the stack", busy, "carry ? 0" + corner, last);
            square("5 carry, the stack", busy, "carry 0 ?" + corner.replaceFirst(" \\d$", " 0"), last);
            square("5 carry, the other one", busy, "carry 0 0 ? " + last, last);
            square("5 carry, the other one", busy, "carry 0 0 " + last + " ?", last);
            square("6 paint", one(busy, size, true), "paint ? 0 1", last);
            square("6 paint", one(busy, size, false), "paint 0 ? 1", last);
            square("15 stack", busy, "stack ? 0 0", last);
            square("15 stack", busy, "stack " + last + " ? 3", last);
            square("16 block", busy, "block ? 0 0 0", last);
            square("16 block", busy, "block " + last + " ? 0 4", last);
            square("18 elevation, a row", busy, "elevation 0 ? 0", last);
            square("18 elevation, a column", busy, "elevation 1 ? 2", last);
            square("19 cut, a row", busy, "cut 0 ?", last);
            square("21 ifPut", busy, "ifPut ? 0 0", last);
            square("21 ifPut", busy, "ifPut " + last + " ? 1", last);
        }
    }

    private void square(String title, String before, String call, int last) {
        range(title + " of a square in a yard of " + (last + 1), before, call, 0, last, "IOOBE");
    }

    /** A block more on each square of the first row, or of the first column. */
    private static String one(String before, int size, boolean row) {
        StringBuilder text = new StringBuilder(before);
        for (int k = 0; k < size; k++) {
            text.append(row ? "put " + k + " 0 2 = ok\n" : "put 0 " + k + " 2 = ok\n");
        }
        return text.toString();
    }

    // ---- blocks

    private void newObject() {
        StringBuilder text = new StringBuilder();
        for (int x = 0; x < 4; x++) {
            for (int y = 0; y < 4; y++) {
                text.append("stack %d %d 0 = 0\nstack %d %d 1 = -1\n".formatted(x, y, x, y));
            }
        }
        script.run("1 Creates an empty yard of 4 columns at the hour 0, with an empty buffer", text + """
            count 0 = 4
            count 11 = 0
            firstError = 0
            clearBuffer = 0
            build = IAE
            count 12 = 0
            undo = ISE
            """);
    }

    private void begin() {
        script.run("2 Begins anew with an empty yard (the hour stays)", """
            puts 3 3 8 = 8
            hour 7 = 0
            begin 6 = 36
            count 1 = 0
            count 11 = 7
            puts 5 5 8 = 8
            begin 5 = 25
            count 0 = 5
            begin 6 = 36
            stack 5 5 0 = 0
            stack 3 3 0 = 0
            block 5 5 0 0 = -1
            put 5 5 2 = 1
            stack 5 5 1 = 2
            begin 6 = 36
            count 1 = 0
            begin 2 = 4
            begin 3 = 9
            begin 4 = 16
            count 10 = 0
            """);
        script.run("2 Begins anew: no colour is left", """
            puts 1 1 2 = 2
            paint 1 1 3 = 0
            put 1 1 3 = 3
            begin 4 = 16
            put 1 1 0 = 1
            put 1 1 0 = 2
            put 1 1 0 = 3
            block 1 1 0 0 = 0
            block 1 1 1 0 = 0
            block 1 1 2 0 = 0
            """);
        script.run("2 begin leaves the buffer", """
            type 00+1 = 4
            begin 2 = 4
            firstError = 4
            build = 1
            count 1 = 1
            """);
        script.run("2 begin, undone", """
            puts 3 3 8 = 8
            begin 2 = 4
            stack 3 3 0 = IOOBE
            undo = 5
            stack 3 3 0 = 8
            count 0 = 4
            """);
    }

    private void put() {
        script.run("3 Returns the height of the stack then; throws if the stack has 8 blocks", """
            put 3 0 3 = 1
            put 3 0 2 = 2
            put 3 0 1 = 3
            put 3 0 0 = 4
            put 3 0 1 = 5
            put 3 0 2 = 6
            put 3 0 3 = 7
            put 3 0 2 = 8
            put 3 0 1 = ISE
            put 3 0 1 = ISE
            stack 3 0 0 = 8
            stack 3 0 1 = 2
            block 3 0 0 0 = 3
            block 3 0 3 0 = 0
            block 3 0 6 0 = 3
            put 2 0 1 = 1
            take 3 0 = 2
            put 3 0 1 = 8
            put 3 0 1 = ISE
            """);
    }

    private void take() {
        script.run("4 Throws if the stack is empty", """
            take 0 3 = ISE
            put 0 3 3 = 1
            take 0 3 = 3
            take 0 3 = ISE
            stack 0 3 0 = 0
            count 12 = 2
            """);
        script.run("4 Takes the topmost block of a stack, of 8 blocks", """
            type 12+01230123 = 11
            build = 1
            take 1 2 = 3
            take 1 2 = 2
            take 1 2 = 1
            take 1 2 = 0
            take 1 2 = 3
            stack 1 2 0 = 3
            stack 1 2 1 = 2
            take 1 2 = 2
            take 1 2 = 1
            take 1 2 = 0
            take 1 2 = ISE
            """);
    }

    private void carry() {
        script.run("5 Throws if it would have more than 8 blocks", """
            puts 0 0 5 = 5
            puts 1 0 4 = 4
            carry 0 0 1 0 = ISE
            carry 1 0 0 0 = ISE
            stack 0 0 0 = 5
            stack 1 0 0 = 4
            take 1 0 = 0
            carry 0 0 1 0 = 8
            stack 0 0 0 = 0
            stack 1 0 0 = 8
            put 2 0 3 = 1
            carry 2 0 1 0 = ISE
            carry 1 0 2 0 = ISE
            take 2 0 = 3
            carry 1 0 2 0 = 8
            carry 0 0 2 0 = 8
            carry 1 0 0 0 = 0
            """);
        script.run("5 Throws if both are the same", """
            carry 2 1 2 1 = ISE
            put 2 1 3 = 1
            carry 2 1 2 1 = ISE
            stack 2 1 0 = 1
            carry 2 1 2 2 = 1
            carry 2 2 1 2 = 1
            carry 1 2 2 1 = 1
            stack 2 1 1 = 3
            puts 2 1 7 = 8
            carry 2 1 2 1 = ISE
            """);
        script.run("5 Puts a whole stack on another one, in its order; an empty one too", """
            carry 0 0 3 3 = 0
            type 00+01;33+23 = 11
            build = 2
            carry 3 0 0 0 = 2
            block 0 0 1 0 = 1
            count 12 = 3
            carry 0 0 3 3 = 4
            block 3 3 0 0 = 2
            block 3 3 1 0 = 3
            block 3 3 2 0 = 0
            block 3 3 3 0 = 1
            put 0 0 0 = 1
            block 0 0 0 0 = 0
            block 0 0 1 0 = -1
            """);
    }

    /** Squares with x other than y, the mirrored ones with other stacks, so that no column is taken for a row. */
    private void carryAcross() {
        script.run("5 x, y, goalX, goalY: the column of the stack, its row, the column of the other one, its row", """
            type 01+0123;10+33;23+1;32+2222222 = 29
            build = 4
            carry 0 1 2 3 = 5
            stack 0 1 0 = 0
            stack 1 0 0 = 2
            stack 3 2 0 = 7
            block 2 3 0 0 = 1
            block 2 3 1 0 = 0
            block 2 3 2 0 = 1
            block 2 3 3 0 = 2
            block 2 3 4 0 = 3
            carry 1 0 3 2 = ISE
            carry 1 0 0 1 = 2
            block 0 1 0 0 = 3
            block 0 1 1 0 = 3
            carry 3 2 1 0 = 7
            stack 3 2 0 = 0
            stack 2 3 0 = 5
            """);
    }

    private void paint() {
        script.run("6 Throws if the stack is empty", """
            paint 3 3 0 = ISE
            put 3 3 3 = 1
            paint 3 3 0 = 3
            take 3 3 = 0
            paint 3 3 0 = ISE
            stack 3 3 1 = -1
            """);
        script.run("6 Paints the topmost block of a stack, of 8 blocks; returns its colour before", """
            type 12+01230123 = 11
            build = 1
            paint 1 2 0 = 3
            paint 1 2 3 = 0
            paint 1 2 3 = 3
            paint 1 2 1 = 3
            block 1 2 6 0 = 2
            block 1 2 7 0 = 1
            stack 1 2 0 = 8
            undo = 4
            block 1 2 7 0 = 3
            """);
    }

    private void turn() {
        for (int size = 2; size <= 6; size++) {
            int last = size - 1;
            script.run("7 what was on (x, y) is on (size - 1 - y, x) then: the corners of " + size, """
                begin %1$d = %3$d
                put 0 0 0 = 1
                put %2$d 0 1 = 1
                put %2$d %2$d 2 = 1
                put 0 %2$d 3 = 1
                puts 1 0 2 = ok
                turn = ok
                stack %2$d 0 1 = 0
                block %2$d %2$d 0 0 = 1
                block 0 %2$d 0 0 = 2
                block 0 0 0 0 = 3
                stack %2$d 1 1 = 0
                turn = ok
                block %2$d %2$d 0 0 = 0
                turn = ok
                block 0 %2$d 0 0 = 0
                turn = ok
                block 0 0 0 0 = 0
                stack 1 0 1 = 0
                """.formatted(size, last, size * size));
        }
        script.run("7 turn leaves the hour and the buffer", """
            hour 6 = 0
            puts 0 0 1 = 1
            type 12 = 2
            turn = 1
            count 11 = 6
            turn = 1
            count 11 = 6
            clearBuffer = 2
            """);
        script.run("7 Returns how many blocks are seen then", """
            turn = 0
            puts 0 0 8 = 8
            turn = 8
            puts 2 3 1 = 1
            turn = 9
            begin 2 = 4
            type 00+0;11+00 = 10
            build = 2
            count 2 = 2
            turn = 3
            turn = 3
            turn = 3
            turn = 2
            """);
    }

    private void cutOff() {
        script.run("8 blocks from there on are taken away", """
            type 00+01230123;10+0123012;20+0;13+01 = 33
            build = 4
            cutOff 8 = 0
            stack 0 0 0 = 8
            cutOff 7 = 1
            stack 0 0 0 = 7
            stack 1 0 0 = 7
            stack 0 0 1 = 2
            cutOff 2 = 10
            stack 1 3 0 = 2
            stack 0 0 1 = 1
            cutOff 1 = 3
            stack 2 0 0 = 1
            stack 1 3 1 = 0
            cutOff 1 = 0
            cutOff 0 = 4
            count 1 = 0
            cutOff 0 = 0
            put 0 0 0 = 1
            block 0 0 0 0 = 0
            """);
        script.run("8 cutOff in a full yard of 6", fullYard(6) + """
            cutOff 8 = 0
            cutOff 7 = 36
            cutOff 0 = 252
            undo = 5
            count 1 = 252
            undo = 4
            count 1 = 288
            """);
    }

    private static String fullYard(int size) {
        StringBuilder text = new StringBuilder("begin " + size + " = ok\n");
        for (int x = 0; x < size; x++) {
            for (int y = 0; y < size; y++) {
                text.append("puts %d %d 8 = 8\n".formatted(x, y));
            }
        }
        return text.toString();
    }

    private void hour() {
        script.run("9 Changes the hour; returns the previous one", """
            hour 7 = 0
            hour 0 = 7
            hour 0 = 0
            hour 8 = IAE
            hour -1 = IAE
            count 11 = 0
            count 12 = 3
            undo = 2
            undo = 1
            count 11 = 7
            """);
    }

    // ---- texts

    private void append() {
        StringBuilder text = new StringBuilder();
        for (int length = 1; length <= 60; length++) {
            text.append("append ").append(33 + length).append(" = ").append(length).append('\n');
        }
        script.run("10 Returns the new length; throws if the buffer has 60 characters", text + """
            append 48 = ISE
            append 33 = ISE
            append 126 = ISE
            append 32 = IAE
            append 127 = IAE
            clearBuffer = 60
            append 33 = 1
            append 126 = 2
            """);
    }

    private void clearBuffer() {
        script.run("11 Clears the buffer; returns the length that it had", """
            clearBuffer = 0
            append 48 = 1
            clearBuffer = 1
            clearBuffer = 0
            firstError = 0
            type 00+1;10+1;20+1;30+1;01+1;11+1;21+1;31+1;02+1;12+1;22+1;32+12 = 60
            clearBuffer = 60
            build = IAE
            put 0 0 0 = 1
            type 11+1 = 4
            clearBuffer = 4
            undo = 0
            clearBuffer = 0
            """);
    }

    private void firstError() {
        script.run("12 the length of the buffer if there is none", """
            firstError = 0
            append 48 = 1
            firstError = 1
            append 48 = 2
            firstError = 2
            append 43 = 3
            append 52 = 4
            firstError = 3
            append 48 = 5
            firstError = 3
            clearBuffer = 5
            firstError = 0
            append 126 = 1
            firstError = 0
            append 126 = 2
            firstError = 0
            """);
    }

    private void buildSquares() {
        String title = "13 an order cannot be done: there is no such square";
        for (int size = 2; size <= 5; size++) {
            int last = size - 1;
            script.run(title + ", " + size, """
                begin %1$d = %3$d
                type %2$d%2$d+0;%2$d0+0;0%2$d+0 = 14
                build = 3
                type 00+0;%1$d0+0;11+1 = 14
                build = 1
                type 00+0;0%1$d+0;11+1 = 14
                build = 1
                type 00-1;%1$d0-1;00-1 = 14
                build = 1
                type %1$d%2$d-1 = 4
                build = 0
                stack 00 00 0 = 1
                count 1 = 4
                """.formatted(size, last, size * size));
        }
        script.run(title + ", 6", """
            begin 6 = 36
            type 55+0;05+1;50+2;55-1 = 19
            build = 4
            count 1 = 2
            """);
    }

    private void buildHeights() {
        script.run("13 an order cannot be done: the stack would have more than 8 blocks", """
            type 00+012301230 = 12
            build = 0
            count 1 = 0
            type 00+01230123 = 11
            build = 1
            type 00+0 = 4
            build = 0
            type 11+012;11+12301;11+1 = 20
            build = 2
            stack 1 1 0 = 8
            type 22+012;22+123012;22-1 = 21
            build = 1
            stack 2 2 0 = 3
            stack 2 2 1 = 2
            """);
        script.run("13 an order cannot be done: the stack has not so many", """
            type 00-1 = 4
            build = 0
            type 00+01230123;00-8 = 16
            build = 2
            count 1 = 0
            type 00+0123012;00-8 = 15
            build = 1
            stack 0 0 0 = 7
            type 00-7;00-1;00+3 = 14
            build = 1
            stack 0 0 0 = 0
            type 00+2;00-1;00+3 = 14
            build = 3
            stack 0 0 1 = 3
            """);
        script.run("13 up to the first one that cannot be done as a whole", """
            type 00+0;11-1;22+1;33+2 = 19
            build = 1
            count 1 = 1
            stack 0 0 0 = 1
            type 00+012;00-5;11+1 = 16
            build = 1
            stack 0 0 0 = 4
            stack 0 0 1 = 2
            stack 1 1 0 = 0
            """);
    }

    /** Squares with x other than y, the mirrored ones with other stacks, so that no column is taken for a row. */
    private void buildAcross() {
        script.run("13 a square, x and y: the orders of one square do not look at the mirrored one", """
            puts 2 1 7 = 7
            type 12+012;12-2;12+3 = 16
            build = 3
            stack 1 2 0 = 2
            block 1 2 0 0 = 0
            block 1 2 1 0 = 3
            stack 2 1 0 = 7
            type 12-3 = 4
            build = 0
            type 21+01 = 5
            build = 0
            type 21-3;12+012301;12+0 = 19
            build = 2
            stack 2 1 0 = 4
            stack 1 2 0 = 8
            stack 1 2 1 = 1
            """);
    }

    private void buildAgain() {
        script.run("13 Does the orders in the buffer, not those of a longer text before", """
            type 00+0;11+1;22+2 = 14
            build = 3
            type 00+0 = 4
            build = 1
            count 1 = 4
            type 00+0;11+1;22+2;33+3 = 19
            clearBuffer = 19
            type 00-1;11-1 = 9
            build = 2
            count 1 = 2
            """);
    }

    private void buildUndo() {
        script.run("13 Undoable, as one call, also if none is done; clears the buffer", """
            type 00+01;11+2;00-1 = 15
            build = 3
            count 12 = 1
            clearBuffer = 0
            type 33-1 = 4
            build = 0
            count 12 = 2
            clearBuffer = 0
            type 33+1;33-2 = 9
            build = 1
            clearBuffer = 0
            undo = 2
            stack 3 3 0 = 0
            undo = 1
            count 1 = 2
            undo = 0
            count 1 = 0
            build = IAE
            """);
    }

    private void buildIncomplete() {
        String title = "13 Throws if the buffer is not a complete yard as a text";
        String[] incomplete = {"0", "00", "00+", "00-", "00+1;", "00-1;", "00+1;0", "00+1;00", "00+1;00+", "00+1;00-",
            ";", ";00+1", "00+1;;11+1", "00+4", "00-0", "00-9", "60+0", "06+0", "00*1", "00+1x", "x00+1", "00-11",
            "00+1-1", "00+1+1"};
        for (String text : incomplete) {
            script.run(title + ": " + text, "put 0 0 1 = 1\nput 0 0 2 = 2\ntype " + text + " = " + text.length()
                + "\nbuild = IAE\ncount 1 = 2\ncount 12 = 2\nclearBuffer = " + text.length());
        }
        script.run(title + ": empty", "put 0 0 1 = 1\nbuild = IAE\ncount 12 = 1\nclearBuffer = 0");
        script.run("13 a complete one behind incomplete ones", """
            type 00+1 = 4
            append 59 = 5
            build = IAE
            type 11 = 7
            build = IAE
            append 45 = 8
            build = IAE
            append 49 = 9
            build = 1
            count 1 = 1
            """);
    }

    private void undo() {
        script.run("14 Restores the latest saved state, and drops it; throws if there is none", """
            undo = ISE
            put 0 0 0 = 1
            put 0 0 1 = 2
            undo = 1
            stack 0 0 1 = 0
            undo = 0
            stack 0 0 0 = 0
            undo = ISE
            undo = ISE
            put 1 0 0 = 1
            put 1 0 1 = 2
            undo = 1
            put 1 0 2 = 2
            undo = 1
            stack 1 0 0 = 1
            """);
    }

    private void undoOfLooks() {
        script.run("14 Restores the latest saved state, and what is seen of it", """
            put 1 1 2 = 1
            count 2 = 1
            picture 0 0 0 4 = 2
            put 1 1 3 = 2
            picture 0 0 0 2 = 1
            picture -1 -1 0 4 = 3
            count 2 = 2
            undo = 1
            picture -1 -1 0 4 = -1
            picture 0 0 0 4 = 2
            count 2 = 1
            stack 1 1 3 = 1
            block 1 1 0 1 = 2
            ifPut 1 1 1 = 2
            undo = 0
            count 2 = 0
            count 4 = 0
            picture 0 0 0 4 = -1
            seenShare = 1.0
            ifPut 1 1 1 = 0
            """);
    }

    // ---- looks

    private void stack() {
        script.run("15 the colour of its topmost block, NONE if it is empty", """
            stack 3 3 1 = -1
            put 3 3 0 = 1
            stack 3 3 1 = 0
            put 3 3 3 = 2
            stack 3 3 1 = 3
            take 3 3 = 3
            take 3 3 = 0
            stack 3 3 1 = -1
            """);
        script.run("15 its height, 0 to 8; its blocks that are seen, from none to all 8", """
            stack 0 0 0 = 0
            stack 0 0 3 = 0
            puts 0 0 8 = 8
            stack 0 0 0 = 8
            stack 0 0 3 = 8
            puts 1 1 8 = 8
            stack 0 0 3 = 1
            stack 1 1 3 = 8
            take 0 0 = 0
            stack 0 0 3 = 0
            stack 0 0 2 = 0
            hour 1 = 0
            stack 0 0 2 = 0
            take 0 0 = 0
            stack 0 0 2 = 1
            """);
    }

    private void block() {
        script.run("16 NONE if there is no such block", """
            block 1 2 0 0 = -1
            block 1 2 0 1 = -1
            block 1 2 0 4 = -1
            block 1 2 7 3 = -1
            puts 1 2 7 = 7
            block 1 2 6 0 = 0
            block 1 2 6 4 = 1
            block 1 2 7 0 = -1
            block 1 2 7 1 = -1
            block 1 2 7 4 = -1
            put 1 2 3 = 8
            block 1 2 7 0 = 3
            block 1 2 7 1 = 2
            block 1 2 7 4 = 1
            block 1 2 6 1 = 0
            block 1 2 6 2 = 2
            block 1 2 6 4 = 1
            block 1 2 8 0 = IAE
            """);
    }

    private void picture() {
        script.run("17 NONE if no block covers it", """
            picture 3 3 0 0 = -1
            picture 3 3 0 1 = -1
            picture 3 3 0 2 = -1
            picture 3 3 0 3 = -1
            picture 3 3 0 4 = -1
            put 3 3 0 = 1
            picture 3 3 0 0 = 3
            picture 3 3 0 1 = 3
            picture 3 3 0 2 = 0
            picture 3 3 0 3 = 1
            picture 3 3 0 4 = 0
            picture 3 3 1 3 = 2
            picture 4 4 0 0 = -1
            picture 2 3 1 0 = -1
            picture 3 2 0 0 = -1
            take 3 3 = 0
            picture 3 3 0 0 = -1
            """);
        script.run("17 i and j, -9 to 6: the outermost triangles that a block can cover", fullYard(6) + """
            picture -9 -9 1 0 = -1
            picture -8 -8 0 2 = 7
            picture -8 -8 0 0 = 0
            picture -8 -8 1 1 = 0
            picture -8 -3 0 1 = 5
            picture -8 -2 0 3 = 2
            picture -3 -8 1 0 = 5
            picture -2 -8 1 3 = 1
            picture 5 5 0 0 = 5
            picture 5 5 1 3 = 2
            picture 5 -2 0 0 = -1
            picture 5 -2 1 0 = -1
            picture 5 -1 1 3 = 1
            picture 5 -1 1 1 = 0
            picture 6 6 0 0 = -1
            picture 6 5 0 0 = -1
            picture -9 -8 0 0 = -1
            """);
    }

    private void elevation() {
        script.run("18 how many stacks there have it (all, if it is 0)", """
            elevation 0 0 0 = 0
            elevation 0 0 1 = 4
            elevation 0 0 2 = 0
            elevation 1 3 1 = 4
            put 0 0 0 = 1
            elevation 0 0 1 = 1
            elevation 1 0 1 = 1
            elevation 1 3 1 = 4
            puts 1 0 1 = 1
            puts 2 0 1 = 1
            puts 3 0 1 = 1
            elevation 0 0 1 = 4
            elevation 0 0 0 = 1
            elevation 1 3 1 = 1
            puts 3 0 7 = 8
            elevation 0 0 0 = 8
            elevation 0 0 1 = 1
            elevation 0 0 2 = 11
            begin 6 = 36
            elevation 0 5 1 = 6
            elevation 1 5 1 = 6
            elevation 1 6 1 = IOOBE
            begin 2 = 4
            elevation 0 1 1 = 2
            elevation 0 2 1 = IOOBE
            """);
        script.run("18 the most blocks", fullYard(6) + """
            elevation 0 0 2 = 48
            elevation 1 5 2 = 48
            elevation 1 5 1 = 6
            elevation 1 5 0 = 8
            """);
    }

    private void cut() {
        script.run("19 as a mask: bit k for the column k", """
            begin 6 = 36
            cut 0 5 = 0
            puts 0 5 1 = 1
            cut 0 5 = 1
            cut 1 5 = 0
            puts 5 5 8 = 8
            cut 0 5 = 33
            cut 6 5 = 32
            cut 7 5 = 32
            take 5 5 = 0
            cut 7 5 = 0
            cut 6 5 = 32
            cut 8 5 = IAE
            cut 0 6 = IOOBE
            """);
        script.run("19 a full row", fullYard(6) + "cut 0 0 = 63\ncut 7 5 = 63");
        script.run("19 a full row of 2", fullYard(2) + "cut 0 0 = 3\ncut 7 1 = 3");
    }

    private void count() {
        script.run("20 nothing to count", """
            count 1 = 0
            count 2 = 0
            count 3 = 0
            count 4 = 0
            count 5 = 0
            count 8 = 0
            count 9 = 0
            count 10 = 0
            """);
        script.run("20 faces that are seen, by 1 or 2 triangles", """
            put 0 0 2 = 1
            count 3 = 3
            count 4 = 6
            put 1 1 0 = 1
            count 3 = 6
            count 4 = 10
            count 5 = 6
            count 7 = 4
            put 1 0 1 = 1
            count 3 = 7
            count 4 = 13
            count 5 = 6
            count 7 = 3
            count 6 = 4
            """);
        script.run("20 a full yard of 6", fullYard(6) + """
            count 1 = 288
            count 2 = 113
            count 3 = 132
            count 4 = 264
            count 5 = 264
            count 6 = 0
            count 9 = 0
            count 10 = 8
            count 12 = 6
            """);
        script.run("20 a full yard of 2", fullYard(2) + """
            count 2 = 25
            count 3 = 36
            count 4 = 72
            """);
    }

    // ---- what would be

    private void ifPut() {
        script.run("21 NONE if the stack has 8 blocks", """
            puts 0 0 7 = 7
            ifPut 0 0 0 = 101
            ifPut 0 0 1 = 2
            ifPut 0 0 2 = 100
            put 0 0 0 = 8
            ifPut 0 0 0 = -1
            ifPut 0 0 1 = -1
            ifPut 0 0 2 = -1
            ifPut 1 0 0 = 101
            take 0 0 = 0
            ifPut 0 0 0 = 101
            """);
        script.run("21 (those in which none is seen now do not count)", """
            ifPut 1 1 1 = 0
            put 0 0 0 = 1
            ifPut 1 1 1 = 2
            ifPut 1 0 1 = 2
            ifPut 0 1 1 = 2
            ifPut 0 0 1 = 2
            ifPut 2 2 1 = 0
            ifPut 2 1 1 = 0
            put 1 0 0 = 1
            ifPut 1 1 1 = 3
            put 0 1 0 = 1
            ifPut 1 1 1 = 4
            put 1 1 0 = 1
            ifPut 1 1 1 = 6
            """);
        script.run("21 by how many blocks more, or fewer, would be seen, plus 100", """
            ifPut 0 0 0 = 101
            puts 1 1 2 = 2
            ifPut 0 0 0 = 100
            begin 4 = 16
            put 0 0 0 = 1
            put 1 1 0 = 1
            ifPut 1 1 0 = 100
            put 1 2 0 = 1
            put 2 1 0 = 1
            put 0 1 0 = 1
            put 1 0 0 = 1
            count 2 = 6
            ifPut 1 1 0 = 99
            ifPut 2 2 0 = 101
            ifPut 2 2 1 = 4
            """);
        script.run("21 by how many squares more, or fewer, would be in shadow, plus 100", """
            ifPut 3 0 2 = 101
            ifPut 0 0 2 = 100
            puts 3 0 2 = 2
            count 9 = 2
            ifPut 3 0 2 = 101
            ifPut 2 0 2 = 100
            put 2 0 0 = 1
            ifPut 2 0 2 = 100
            ifPut 1 0 2 = 100
            hour 3 = 0
            ifPut 3 0 2 = 100
            hour 0 = 3
            begin 2 = 4
            put 1 0 0 = 1
            ifPut 0 0 2 = 99
            ifPut 1 1 2 = 101
            """);
        script.run("21 as many squares in shadow with a higher stack as there are, not more", """
            begin 6 = 36
            puts 5 0 7 = 7
            count 9 = 5
            take 5 0 = 0
            count 9 = 5
            hour 4 = 0
            puts 0 5 7 = 7
            ifPut 0 5 2 = 101
            hour 6 = 4
            ifPut 5 0 2 = 100
            """);
    }

    private void ifPutBehind() {
        script.run("21 a block that others hide, all of it", """
            puts 1 1 2 = 2
            ifPut 0 0 0 = 100
            ifPut 0 0 1 = 0
            begin 4 = 16
            puts 3 3 3 = 3
            ifPut 0 0 0 = 101
            ifPut 0 0 1 = 0
            ifPut 1 1 0 = 100
            ifPut 1 1 1 = 0
            ifPut 2 2 0 = 100
            ifPut 2 2 1 = 0
            put 2 2 0 = 1
            ifPut 2 2 0 = 100
            ifPut 2 2 1 = 0
            ifPut 1 1 1 = 0
            """);
        script.run("21 a block of which one triangle would be seen", """
            puts 1 0 2 = 2
            put 0 1 0 = 1
            ifPut 0 0 0 = 101
            ifPut 0 0 1 = 0
            put 0 1 0 = 2
            ifPut 0 0 0 = 100
            """);
        script.run("21 a block of which one triangle is left, and none", """
            put 0 0 0 = 1
            put 1 0 0 = 1
            put 0 1 0 = 1
            ifPut 1 0 0 = 101
            ifPut 1 0 1 = 3
            put 1 0 0 = 2
            ifPut 0 1 0 = 100
            """);
    }

    /** What ifPut tells is what another object with the same blocks tells when the block is put indeed. */
    private void ifPutAsPut() {
        String[] texts = {
            "00+0;10+01;01+0;11+012;21+01;12+0123;22+0;33+01",
            "33+01230123;23+0123012;32+012;31+01;11+01230;20+0;02+0",
            "00+01230123;11+0123012;22+012301;33+01230;12+01;21+01",
            "03+0123;12+012;21+01;30+0;33+0",
            "30+01230123;20+01230;10+01;13+0123;22+0",
        };
        for (String text : texts) {
            for (int hour = 0; hour <= 7; hour++) {
                for (int square = 0; square < 16; square++) {
                    compareIfPut(text, hour, square % 4, square / 4);
                }
            }
        }
    }

    private static SlantYard built(String text, int hour) {
        SlantYard yard = new SlantYard();
        for (int index = 0; index < text.length(); index++) {
            yard.append(text.charAt(index));
        }
        yard.build();
        yard.hour(hour);
        return yard;
    }

    private void compareIfPut(String text, int hour, int x, int y) {
        String title = "21 ifPut " + x + " " + y + " at the hour " + hour + " of " + text;
        SlantYard asked = built(text, hour);
        SlantYard done = built(text, hour);
        int z = done.stack(x, y, 0);
        if (z == 8) {
            for (int what = 0; what <= 2; what++) {
                int k = what;
                checks.due(title, -1, () -> asked.ifPut(x, y, k));
            }
            return;
        }
        int seen = done.count(2);
        int dark = done.count(9);
        int[][] six = {{x - z - 1, y - z - 1, 0}, {x - z - 1, y - z - 1, 1}, {x - z, y - z - 1, 1}, {x - z, y - z, 0},
            {x - z - 1, y - z, 0}, {x - z, y - z, 1}};
        boolean[] shown = new boolean[six.length];
        for (int k = 0; k < six.length; k++) {
            shown[k] = done.picture(six[k][0], six[k][1], six[k][2], 0) != -1;
        }
        done.put(x, y, 1);
        int taken = 0;
        for (int k = 0; k < six.length; k++) {
            boolean mine = done.picture(six[k][0], six[k][1], six[k][2], 0) == x
                && done.picture(six[k][0], six[k][1], six[k][2], 1) == y
                && done.picture(six[k][0], six[k][1], six[k][2], 2) == z;
            taken += mine && shown[k] ? 1 : 0;
        }
        checks.due(title + ", seen", done.count(2) - seen + 100, () -> asked.ifPut(x, y, 0));
        checks.due(title + ", triangles", taken, () -> asked.ifPut(x, y, 1));
        checks.due(title + ", shadows", done.count(9) - dark + 100, () -> asked.ifPut(x, y, 2));
        checks.due(title + " changed nothing", built(text, hour).digest(), asked::digest);
    }

    private void ifHour() {
        StringBuilder none = new StringBuilder();
        StringBuilder full = new StringBuilder(fullYard(6));
        for (int hour = 0; hour <= 7; hour++) {
            none.append("ifHour ").append(hour).append(" = 0\n");
            full.append("ifHour ").append(hour).append(" = 0\n");
        }
        script.run("22 no squares in shadow: an empty yard", none.toString());
        script.run("22 no squares in shadow: a full yard", full.toString());
        script.run("22 how many squares would be in shadow at an hour, not at the hour that is", """
            begin 2 = 4
            put 1 0 0 = 1
            ifHour 0 = 1
            ifHour 1 = 0
            ifHour 4 = 0
            ifHour 7 = 1
            hour 4 = 0
            ifHour 0 = 1
            ifHour 7 = 1
            count 9 = 0
            """);
    }

    private void brightest() {
        script.run("23 of several the lowest one: all hours alike", "brightest = 0\nhour 5 = 0\nbrightest = 0");
        script.run("23 of several the lowest one: the hours 1 to 4", """
            begin 2 = 4
            put 1 1 0 = 1
            ifHour 0 = 1
            ifHour 1 = 0
            ifHour 2 = 0
            ifHour 7 = 0
            brightest = 1
            """);
        script.run("23 of several the lowest one: 6 and 7", """
            begin 3 = 9
            type 02+0;11+0;12+0123 = 17
            build = 3
            brightest = 6
            """);
        String[] brightest = {"01+000;11+00", "01+000;20+0", "10+0;11+000", "11+000;20+0", "11+000;21+00",
            "12+000;20+0", "11+0;12+0000", "00+00;12+000"};
        for (int hour = 0; hour <= 7; hour++) {
            String text = brightest[hour];
            StringBuilder lines = new StringBuilder("begin 3 = 9\n");
            lines.append("type ").append(text).append(" = ").append(text.length()).append("\nbuild = 2\n");
            for (int other = 0; other <= 7; other++) {
                int at = (hour + other) % 8;
                lines.append("hour ").append(at).append(" = ok\nbrightest = ").append(hour).append('\n');
            }
            lines.append("ifHour ").append(hour).append(" = 0\n");
            script.run("23 the hour with the fewest squares in shadow: " + hour, lines.toString());
        }
    }

    private void same() {
        script.run("24 no blocks", "same 0 = 0\nsame 1 = 0");
        script.run("24 a full yard of 6", fullYard(6) + "same 0 = 48\nsame 1 = 288");
        script.run("24 a full yard of 2", fullYard(2) + "same 0 = 16\nsame 1 = 32");
        script.run("24 the fewest, the most: rows and columns of the same heights", """
            put 0 0 0 = 1
            same 0 = 1
            same 1 = 1
            put 3 3 0 = 1
            same 0 = 2
            same 1 = 4
            put 3 0 0 = 1
            put 0 3 0 = 1
            same 0 = 2
            same 1 = 4
            puts 3 3 7 = 8
            same 0 = 9
            same 1 = 11
            """);
        script.run("24 more rows than columns of a height, and fewer", """
            puts 0 0 3 = 3
            puts 0 1 3 = 3
            puts 0 2 3 = 3
            same 0 = 9
            same 1 = 9
            turn = 9
            same 0 = 9
            same 1 = 9
            puts 0 3 2 = 2
            same 0 = 11
            same 1 = 19
            """);
    }

    private void bestTurn() {
        script.run("25 of several the fewest: none", "bestTurn = 0\nputs 0 0 8 = 8\nbestTurn = 0");
        script.run("25 how many quarters, 0 to 3, of several the fewest", """
            begin 2 = 4
            type 00+0;11+00 = 10
            build = 2
            count 2 = 2
            bestTurn = 1
            turn = 3
            bestTurn = 0
            turn = 3
            bestTurn = 0
            turn = 3
            bestTurn = 0
            turn = 2
            bestTurn = 1
            """);
        script.run("25 three quarters", """
            begin 3 = 9
            type 10+01;12+2;21+33 = 16
            build = 3
            bestTurn = 3
            """);
    }

    private void seenShare() {
        script.run("26 1.0 without blocks", """
            seenShare = 1.0
            put 0 0 0 = 1
            seenShare = 1.0
            put 1 1 0 = 1
            put 1 1 0 = 2
            seenShare = 0.6666666666666666
            take 0 0 = 0
            seenShare = 1.0
            take 1 1 = 0
            take 1 1 = 0
            seenShare = 1.0
            """);
        script.run("26 a full yard of 6", fullYard(6) + "seenShare = " + 113.0 / 288.0);
    }

    /** What the hash is of a list that is written down here, for a yard so small that it can be. */
    private void digest() {
        long hash = 2789;
        int[] counts = {2, 0, 0, 0, 0, 0, 0, 0, 0, 0, 0, 0, 1};
        hash = add(hash, counts);
        for (int square = 0; square < 4; square++) {
            hash = add(hash, 0, -1, 0, 0, 101, 0, square == 1 || square == 3 ? 101 : 100);
        }
        for (int triangle = 0; triangle < 16 * 16 * 2; triangle++) {
            hash = add(hash, -1, -1);
        }
        hash = add(hash, 0, 2, 0, 0, 2, 0, 0, 2, 0, 0, 2, 0);
        hash = add(hash, 0, 0, 0, 0);
        hash = add(hash, 0, 0, 0, 0, 0, 0, 0, 0);
        hash = add(hash, 0, 0, 0, 0);
        hash = 31 * hash + 0x3FF0000000000000L;
        script.run("27 the length of the buffer: 0", "begin 2 = 4\ndigest = " + add(hash, 0));
        script.run("27 the length of the buffer and each of its character codes", "begin 2 = 4\nappend 33 = 1\n"
            + "append 126 = 2\ndigest = " + add(hash, 2, 33, 126));
    }

    private static long add(long before, int... values) {
        long hash = before;
        for (int value : values) {
            hash = 31 * hash + value;
        }
        return hash;
    }

    /** Against the document written out once more: the largest yard, full, with a full buffer and six states. */
    private void digestOfFullYard() {
        SlantYard yard = new SlantYard();
        PlainYard plain = new PlainYard();
        yard.begin(6);
        plain.begin(6);
        for (int k = 0; k < 36 * 8; k++) {
            int colour = k * k / 7 % 4;
            yard.put(k % 6, k / 6 % 6, colour);
            plain.put(k % 6, k / 6 % 6, colour);
        }
        for (int k = 0; k < 60; k++) {
            yard.append(126 - k);
            plain.append(126 - k);
        }
        checks.due("27 digest of a full yard", plain.digest(), yard::digest);
        yard.take(5, 5);
        plain.take(5, 5);
        checks.due("27 digest with 113 of 287 blocks seen", plain.digest(), yard::digest);
    }

    /** Of k blocks in a row one is hidden: shares of which few are sums of few halvings. */
    private void digestOfShares() {
        for (int blocks = 3; blocks <= 40; blocks++) {
            SlantYard yard = new SlantYard();
            PlainYard plain = new PlainYard();
            yard.begin(6);
            plain.begin(6);
            for (int k = 0; k < blocks; k++) {
                int x = k < 3 ? (k + 1) / 2 : 5 - k / 8;
                int y = k < 3 ? (k + 1) / 2 : k % 2;
                yard.put(x, y, 0);
                plain.put(x, y, 0);
            }
            checks.due("27 the bits of seenShare, " + plain.seenShare(), plain.digest(), yard::digest);
            checks.due("26 seenShare of " + blocks, plain.seenShare(), yard::seenShare);
        }
    }

    private void none() {
        checks.due("NONE = -1", -1, () -> SlantYard.NONE);
    }

    public static void main(String[] args) {
        BoundsTest test = new BoundsTest();
        test.none();
        test.argumentsThatAreNoSquares();
        test.squares();
        test.newObject();
        test.begin();
        test.put();
        test.take();
        test.carry();
        test.carryAcross();
        test.paint();
        test.turn();
        test.cutOff();
        test.hour();
        test.append();
        test.clearBuffer();
        test.firstError();
        test.buildSquares();
        test.buildHeights();
        test.buildAcross();
        test.buildAgain();
        test.buildUndo();
        test.buildIncomplete();
        test.undo();
        test.undoOfLooks();
        test.stack();
        test.block();
        test.picture();
        test.elevation();
        test.cut();
        test.count();
        test.ifPut();
        test.ifPutBehind();
        test.ifPutAsPut();
        test.ifHour();
        test.brightest();
        test.same();
        test.bestTurn();
        test.seenShare();
        test.digest();
        test.digestOfFullYard();
        test.digestOfShares();
        test.checks.end();
    }
}
