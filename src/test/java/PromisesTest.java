/** For each promise its ordinary inputs, its edges and its wrong inputs, with answers found by hand. */
public final class PromisesTest {
    private final Checks checks = new Checks();
    private final Script script = new Script(checks);

    private void newObject() {
        script.run("1 new object", """
            count 0 = 4
            count 1 = 0
            count 11 = 0
            count 12 = 0
            seenShare = 1.0
            firstError = 0
            clearBuffer = 0
            undo = ISE
            stack 3 3 0 = 0
            stack 4 3 0 = IOOBE
            digest = -4212370706158111869
            """);
        checks.due("1 NONE", -1, () -> SlantYard.NONE);
    }

    private void begin() {
        script.run("2 begin", """
            hour 5 = 0
            append 48 = 1
            put 3 3 2 = 1
            begin 1 = IAE
            begin 7 = IAE
            begin -2147483648 = IAE
            begin 2 = 4
            count 0 = 2
            count 1 = 0
            count 11 = 5
            count 12 = 3
            stack 2 0 0 = IOOBE
            put 1 1 3 = 1
            begin 2 = 4
            count 1 = 0
            block 1 1 0 0 = -1
            put 1 1 0 = 1
            stack 1 1 1 = 0
            begin 6 = 36
            count 0 = 6
            stack 5 5 0 = 0
            put 5 5 1 = 1
            clearBuffer = 1
            begin 3 = 9
            begin 6 = 36
            stack 5 5 0 = 0
            undo = 5
            undo = 4
            stack 5 5 1 = 1
            """);
    }

    private void put() {
        script.run("3 put", """
            put 0 0 0 = 1
            put 0 0 1 = 2
            put 0 0 2 = 3
            put 0 0 3 = 4
            put 0 0 3 = 5
            put 0 0 2 = 6
            put 0 0 1 = 7
            put 0 0 3 = 8
            put 0 0 0 = ISE
            put 0 0 4 = IAE
            put 0 0 -1 = IAE
            put 4 0 4 = IOOBE
            put 0 4 0 = IOOBE
            put -1 0 0 = IOOBE
            put 0 -1 9 = IOOBE
            put 2147483647 0 0 = IOOBE
            put 0 -2147483648 0 = IOOBE
            stack 0 0 0 = 8
            block 0 0 0 0 = 0
            block 0 0 1 0 = 1
            block 0 0 2 0 = 2
            block 0 0 3 0 = 3
            block 0 0 4 0 = 3
            block 0 0 5 0 = 2
            block 0 0 6 0 = 1
            block 0 0 7 0 = 3
            count 12 = 6
            put 3 1 2 = 1
            stack 3 1 1 = 2
            stack 1 3 1 = -1
            undo = 5
            stack 3 1 1 = -1
            """);
    }

    private void take() {
        script.run("4 take", """
            take 0 0 = ISE
            take 4 0 = IOOBE
            take 0 -1 = IOOBE
            count 12 = 0
            put 1 2 3 = 1
            put 1 2 1 = 2
            take 1 2 = 1
            stack 1 2 0 = 1
            stack 1 2 1 = 3
            count 12 = 3
            take 1 2 = 3
            take 1 2 = ISE
            stack 1 2 1 = -1
            put 1 2 0 = 1
            block 1 2 0 0 = 0
            undo = 4
            undo = 3
            stack 1 2 1 = 3
            undo = 2
            stack 1 2 1 = 1
            """);
    }

    private void carry() {
        script.run("5 carry", """
            carry 0 0 1 1 = 0
            count 12 = 1
            put 0 0 1 = 1
            put 0 0 2 = 2
            put 0 0 3 = 3
            put 3 2 0 = 1
            put 3 2 2 = 2
            carry 0 0 3 2 = 5
            block 3 2 0 0 = 0
            block 3 2 1 0 = 2
            block 3 2 2 0 = 1
            block 3 2 3 0 = 2
            block 3 2 4 0 = 3
            stack 0 0 0 = 0
            carry 0 0 0 0 = ISE
            carry 3 2 3 2 = ISE
            carry 4 0 4 0 = IOOBE
            carry 0 0 0 4 = IOOBE
            carry 0 -1 0 0 = IOOBE
            carry 0 0 -1 0 = IOOBE
            undo = 5
            stack 0 0 1 = 3
            stack 3 2 0 = 2
            """);
        script.run("5 carry, full", """
            build = IAE
            type 00+01230;11+3210;22+0123 = 24
            build = 3
            carry 0 0 1 1 = ISE
            carry 1 1 0 0 = ISE
            carry 1 1 2 2 = 8
            block 2 2 4 0 = 3
            block 2 2 7 0 = 0
            carry 0 0 2 2 = ISE
            carry 1 1 2 2 = 8
            carry 2 2 1 1 = 8
            count 12 = 4
            """);
    }

    private void paint() {
        script.run("6 paint", """
            paint 0 0 0 = ISE
            paint 0 0 4 = IAE
            paint 0 0 -1 = IAE
            paint 4 0 4 = IOOBE
            paint 0 4 0 = IOOBE
            put 0 0 1 = 1
            put 0 0 2 = 2
            paint 0 0 3 = 2
            block 0 0 0 0 = 1
            block 0 0 1 0 = 3
            paint 0 0 0 = 3
            paint 0 0 0 = 0
            count 12 = 5
            stack 0 0 0 = 2
            undo = 4
            undo = 3
            stack 0 0 1 = 3
            undo = 2
            stack 0 0 1 = 2
            """);
    }

    private void turn() {
        script.run("7 turn", """
            begin 3 = 9
            put 0 0 1 = 1
            put 1 0 2 = 1
            put 1 0 3 = 2
            hour 6 = 0
            turn = 3
            stack 2 0 1 = 1
            stack 2 1 0 = 2
            block 2 1 0 0 = 2
            block 2 1 1 0 = 3
            stack 0 0 0 = 0
            stack 1 0 0 = 0
            count 11 = 6
            count 12 = 6
            turn = 3
            stack 2 2 1 = 1
            stack 1 2 1 = 3
            turn = 3
            stack 0 2 1 = 1
            stack 0 1 1 = 3
            turn = 3
            stack 0 0 1 = 1
            stack 1 0 1 = 3
            undo = 5
            stack 0 2 1 = 1
            """);
        script.run("7 turn, empty", """
            turn = 0
            count 12 = 1
            """);
    }

    private void cutOff() {
        script.run("8 cutOff", """
            type 00+01230123;10+3;23+1111 = 24
            build = 3
            cutOff 9 = IAE
            cutOff -1 = IAE
            cutOff 8 = 0
            count 12 = 2
            cutOff 3 = 6
            stack 0 0 0 = 3
            stack 0 0 1 = 2
            stack 1 0 0 = 1
            stack 2 3 0 = 3
            put 0 0 0 = 4
            block 0 0 3 0 = 0
            cutOff 0 = 8
            count 1 = 0
            undo = 4
            undo = 3
            undo = 2
            stack 0 0 0 = 8
            block 0 0 7 0 = 3
            """);
    }

    private void hour() {
        script.run("9 hour", """
            hour 8 = IAE
            hour -1 = IAE
            hour 7 = 0
            hour 7 = 7
            count 11 = 7
            count 12 = 2
            hour 0 = 7
            undo = 2
            count 11 = 7
            undo = 1
            undo = 0
            count 11 = 0
            """);
    }

    private void append() {
        String nine = "append 33 = %d\nappend 126 = %d\n";
        StringBuilder text = new StringBuilder();
        for (int length = 1; length < 60; length += 2) {
            text.append(nine.formatted(length, length + 1));
        }
        script.run("10 append", """
            append 32 = IAE
            append 127 = IAE
            append -1 = IAE
            append 65584 = IAE
            """ + text + """
            append 48 = ISE
            append 32 = IAE
            count 12 = 0
            undo = ISE
            clearBuffer = 60
            append 48 = 1
            """);
    }

    private void clearBuffer() {
        script.run("11 clearBuffer", """
            clearBuffer = 0
            type 00+1 = 4
            clearBuffer = 4
            clearBuffer = 0
            count 12 = 0
            count 1 = 0
            build = IAE
            append 48 = 1
            """);
    }

    private void firstError(String text, int due) {
        SlantYard yard = new SlantYard();
        for (int index = 0; index < text.length(); index++) {
            yard.append(text.charAt(index));
        }
        checks.due("12 firstError of " + text, due, yard::firstError);
        checks.due("12 firstError of " + text + ", again", due, yard::firstError);
        checks.due("12 firstError of " + text + " left the buffer", text.length(), yard::clearBuffer);
    }

    private void firstErrors() {
        firstError("", 0);
        firstError("0", 1);
        firstError("6", 0);
        firstError("/", 0);
        firstError("+", 0);
        firstError("55", 2);
        firstError("56", 1);
        firstError("00*1", 2);
        firstError("00,", 2);
        firstError("00;", 2);
        firstError("00+", 3);
        firstError("00+;", 3);
        firstError("00+4", 3);
        firstError("00+/", 3);
        firstError("00+3", 4);
        firstError("00+0123012301230123", 19);
        firstError("00+01234", 7);
        firstError("00+0-1", 4);
        firstError("00+0+1", 4);
        firstError("00+0;", 5);
        firstError("00+0;;", 5);
        firstError("00+0;6", 5);
        firstError("00+0;55-8", 9);
        firstError("00-", 3);
        firstError("00-0", 3);
        firstError("00-9", 3);
        firstError("00-1", 4);
        firstError("00-8;", 5);
        firstError("00-11", 4);
        firstError("00-1+1", 4);
        firstError("00-+", 3);
        firstError("xx00+1", 0);
        firstError("00+1;00-1;x", 10);
        firstError("000", 2);
        firstError("00+0;00+0;00+0;00+0;00+0;00+0;00+0;00+0;00+0;00+0;00+0;00+0;", 60);
    }

    private void incomplete(String text) {
        Run run = script.run("13 build of " + text, "put 0 0 1 = 1");
        if (!text.isEmpty()) {
            script.go("13 build of " + text, run, "type " + text + " = " + text.length());
        }
        script.go("13 build of " + text, run, "build = IAE\nbuild = IAE\ncount 1 = 1\ncount 12 = 1\n"
            + "clearBuffer = " + text.length());
    }

    private void build() {
        for (String text : new String[] {"", "0", "00", "00+", "00-", "00+0;", "00-1;", "00-1;0", "00+4", "00-9",
                "00-12", "x", "60+0", "00+0;;00+0", "00+0x", ";"}) {
            incomplete(text);
        }
        script.run("13 build", """
            type 00+012;11+3;00-2;33+10 = 22
            firstError = 22
            build = 4
            firstError = 0
            clearBuffer = 0
            count 12 = 1
            stack 0 0 0 = 1
            stack 0 0 1 = 0
            stack 1 1 1 = 3
            block 3 3 0 0 = 1
            block 3 3 1 0 = 0
            type 00-2;11+0 = 9
            build = 0
            stack 0 0 0 = 1
            stack 1 1 0 = 1
            count 12 = 2
            clearBuffer = 0
            type 11-1;12+3;40+0;00+1 = 19
            build = 2
            stack 1 1 0 = 0
            stack 1 2 0 = 1
            stack 0 0 0 = 1
            undo = 2
            stack 1 1 0 = 1
            stack 1 2 0 = 0
            clearBuffer = 0
            undo = 1
            undo = 0
            count 1 = 0
            """);
        script.run("13 build, heights", """
            type 00+01230123;00+0;11+1 = 21
            build = 1
            count 1 = 8
            type 11+012301230 = 12
            build = 0
            count 1 = 8
            type 00-8;11+01230123 = 16
            build = 2
            stack 0 0 0 = 0
            stack 1 1 0 = 8
            type 11-7;11-2 = 9
            build = 1
            stack 1 1 0 = 1
            begin 6 = 36
            type 55+1;50+2;05+3 = 14
            build = 3
            stack 5 5 1 = 1
            stack 5 0 1 = 2
            stack 0 5 1 = 3
            begin 2 = 4
            type 11+1;21+1 = 9
            build = 1
            type 12+1 = 4
            build = 0
            """);
    }

    private void undo() {
        script.run("14 undo", """
            undo = ISE
            put 0 0 1 = 1
            hour 3 = 0
            begin 5 = 25
            put 4 4 2 = 1
            type 12 = 2
            undo = 3
            stack 4 4 0 = 0
            undo = 2
            count 0 = 4
            stack 0 0 1 = 1
            count 11 = 3
            undo = 1
            count 11 = 0
            undo = 0
            count 1 = 0
            undo = ISE
            clearBuffer = 2
            """);
        script.run("14 undo, six saved states", """
            put 0 0 1 = 1
            put 0 0 1 = 2
            put 0 0 1 = 3
            put 0 0 1 = 4
            put 0 0 1 = 5
            put 0 0 1 = 6
            count 12 = 6
            put 0 0 1 = 7
            put 0 0 1 = 8
            put 0 0 1 = ISE
            count 12 = 6
            undo = 5
            stack 0 0 0 = 7
            put 1 0 1 = 1
            count 12 = 6
            undo = 5
            undo = 4
            undo = 3
            undo = 2
            undo = 1
            undo = 0
            stack 0 0 0 = 2
            undo = ISE
            put 0 0 0 = 3
            undo = 0
            """);
        script.run("14 undo, calls that change nothing", """
            hour 0 = 0
            cutOff 8 = 0
            carry 0 0 1 0 = 0
            begin 4 = 16
            turn = 0
            type 00-1 = 4
            build = 0
            count 12 = 6
            undo = 5
            undo = 4
            """);
    }

    private void stack() {
        script.run("15 stack", """
            begin 2 = 4
            type 00+01;10+12;01+23;11+31 = 23
            build = 4
            stack 0 0 0 = 2
            stack 0 0 1 = 1
            stack 0 0 2 = 0
            stack 0 0 3 = 1
            stack 1 1 3 = 2
            stack 1 0 1 = 2
            stack 0 0 4 = IAE
            stack 0 0 -1 = IAE
            stack 2 0 4 = IOOBE
            stack 0 2 0 = IOOBE
            stack -1 0 0 = IOOBE
            take 0 0 = 1
            stack 0 0 2 = 1
            stack 0 0 3 = 0
            hour 4 = 0
            stack 0 0 2 = 0
            count 12 = 4
            """);
    }

    private void shadows() {
        script.run("15, 20, 22 shadows of a stack of 3", """
            type 30+000 = 6
            build = 1
            count 9 = 3
            stack 2 0 2 = 1
            stack 1 0 2 = 1
            stack 0 0 2 = 1
            stack 3 0 2 = 0
            stack 0 1 2 = 0
            ifHour 0 = 3
            ifHour 1 = 0
            ifHour 2 = 0
            ifHour 3 = 0
            ifHour 4 = 0
            ifHour 5 = 0
            ifHour 6 = 3
            ifHour 7 = 3
            brightest = 1
            put 0 0 0 = 1
            stack 0 0 2 = 0
            put 1 0 0 = 1
            stack 1 0 2 = 1
            put 1 0 0 = 2
            stack 1 0 2 = 0
            stack 0 0 2 = 1
            """);
        script.run("22, 23 a stack in the middle", """
            begin 6 = 36
            type 22+01230123 = 11
            build = 1
            ifHour 0 = 2
            ifHour 1 = 2
            ifHour 2 = 2
            ifHour 3 = 2
            ifHour 4 = 3
            ifHour 5 = 3
            ifHour 6 = 3
            ifHour 7 = 2
            brightest = 0
            cutOff 5 = 3
            ifHour 0 = 2
            ifHour 1 = 2
            ifHour 2 = 1
            ifHour 3 = 1
            ifHour 4 = 2
            ifHour 5 = 3
            ifHour 6 = 3
            ifHour 7 = 2
            brightest = 2
            ifHour 8 = IAE
            ifHour -1 = IAE
            count 11 = 0
            hour 5 = 0
            count 9 = 3
            stack 5 5 2 = 1
            stack 1 1 2 = 0
            hour 7 = 5
            stack 0 4 2 = 1
            stack 1 3 2 = 1
            stack 3 1 2 = 0
            hour 3 = 7
            stack 3 1 2 = 1
            stack 4 0 2 = 0
            cutOff 3 = 2
            ifHour 2 = 1
            ifHour 3 = 1
            ifHour 4 = 1
            cutOff 2 = 1
            ifHour 1 = 1
            ifHour 2 = 0
            ifHour 3 = 0
            ifHour 4 = 1
            cutOff 1 = 1
            ifHour 0 = 1
            ifHour 1 = 0
            ifHour 4 = 0
            ifHour 5 = 1
            ifHour 6 = 1
            ifHour 7 = 1
            """);
    }

    private void block() {
        script.run("16 block", """
            put 0 0 2 = 1
            put 1 1 3 = 1
            block 0 0 0 0 = 2
            block 0 0 0 1 = 2
            block 0 0 0 2 = 1
            block 0 0 0 3 = 1
            block 0 0 0 4 = 1
            block 0 0 1 4 = -1
            block 0 1 0 0 = -1
            block 0 0 7 0 = -1
            block 0 0 8 0 = IAE
            block 0 0 -1 0 = IAE
            block 0 0 0 5 = IAE
            block 0 0 0 -1 = IAE
            block 0 0 7 5 = IAE
            block 4 0 8 5 = IOOBE
            block 0 4 0 0 = IOOBE
            put 1 1 1 = 2
            block 0 0 0 0 = 2
            block 0 0 0 1 = 0
            block 0 0 0 2 = 0
            block 0 0 0 3 = 0
            block 0 0 0 4 = 0
            block 1 1 0 1 = 0
            block 1 1 0 2 = 2
            block 1 1 0 3 = 2
            block 1 1 1 1 = 2
            """);
        script.run("16 block, half hidden faces", """
            put 0 0 2 = 1
            put 1 0 3 = 1
            block 0 0 0 1 = 2
            block 0 0 0 2 = 0
            block 0 0 0 3 = 2
            put 1 0 1 = 2
            block 0 0 0 1 = 1
            block 0 0 0 3 = 2
            block 0 0 0 4 = 1
            put 1 0 1 = 3
            block 0 0 0 1 = 1
            put 0 1 1 = 1
            block 0 0 0 1 = 1
            block 0 0 0 2 = 0
            block 0 0 0 3 = 0
            block 0 0 0 4 = 1
            stack 0 0 3 = 1
            """);
    }

    private void picture() {
        script.run("17 picture", """
            put 0 0 2 = 1
            picture -1 -1 0 3 = 0
            picture -1 -1 1 3 = 0
            picture 0 -1 1 3 = 1
            picture 0 0 0 3 = 1
            picture -1 0 0 3 = 2
            picture 0 0 1 3 = 2
            picture 0 -1 0 3 = -1
            picture -1 0 1 3 = -1
            picture 0 0 1 0 = 0
            picture 0 0 1 4 = 2
            picture -9 -9 0 0 = -1
            picture 6 6 1 4 = -1
            picture -10 0 0 0 = IAE
            picture 7 0 0 0 = IAE
            picture 0 -10 0 0 = IAE
            picture 0 7 0 0 = IAE
            picture 0 0 -1 0 = IAE
            picture 0 0 2 0 = IAE
            picture 0 0 0 -1 = IAE
            picture 0 0 0 5 = IAE
            paint 0 0 1 = 2
            picture 0 0 1 4 = 1
            """);
        script.run("17 picture, the far ends", """
            begin 6 = 36
            type 55+3;00+00000001 = 16
            build = 2
            picture 5 5 0 0 = 5
            picture 5 5 0 3 = 1
            picture 5 5 1 1 = 5
            picture 5 5 1 3 = 2
            picture 5 5 1 2 = 0
            picture 4 4 0 4 = 3
            picture -8 -8 0 0 = 0
            picture -8 -8 1 2 = 7
            picture -8 -8 1 3 = 0
            picture -8 -8 1 4 = 1
            picture -7 -7 0 2 = 7
            picture -6 -6 0 2 = 6
            """);
        script.run("17 picture, the nearer one of two", """
            type 00+0;11+12 = 10
            build = 2
            picture -1 -1 0 0 = 1
            picture -1 -1 0 2 = 1
            picture -1 -1 1 4 = 2
            take 1 1 = 2
            picture -1 -1 1 0 = 0
            picture 0 0 0 0 = 1
            picture 0 0 0 3 = 0
            undo = 1
            picture 0 0 0 3 = 1
            picture 0 0 0 2 = 1
            """);
    }

    private void elevation() {
        script.run("18 elevation", """
            begin 3 = 9
            type 00+111;10+1;20+222;02+00 = 24
            build = 4
            elevation 0 0 0 = 3
            elevation 0 0 1 = 2
            elevation 0 0 2 = 7
            elevation 0 1 0 = 0
            elevation 0 1 1 = 3
            elevation 0 1 2 = 0
            elevation 0 2 0 = 2
            elevation 0 2 1 = 1
            elevation 1 0 0 = 3
            elevation 1 0 1 = 1
            elevation 1 0 2 = 5
            elevation 1 1 0 = 1
            elevation 1 2 2 = 3
            elevation 0 3 0 = IOOBE
            elevation 1 3 0 = IOOBE
            elevation 0 -1 0 = IOOBE
            elevation 2 3 3 = IOOBE
            elevation 2 0 0 = IAE
            elevation -1 0 0 = IAE
            elevation 0 0 3 = IAE
            elevation 0 0 -1 = IAE
            count 12 = 2
            """);
    }

    private void cut() {
        script.run("19 cut", """
            begin 6 = 36
            type 01+1;21+11;51+01230123 = 22
            build = 3
            cut 0 1 = 37
            cut 1 1 = 36
            cut 2 1 = 32
            cut 7 1 = 32
            cut 0 0 = 0
            cut 0 5 = 0
            cut 8 0 = IAE
            cut -1 0 = IAE
            cut 0 6 = IOOBE
            cut 0 -1 = IOOBE
            cut 8 6 = IOOBE
            """);
    }

    private void count() {
        script.run("20 count", """
            begin 2 = 4
            hour 2 = 0
            type 00+01;10+11;01+23;11+31 = 23
            build = 4
            count 0 = 2
            count 1 = 8
            count 2 = 7
            count 3 = 12
            count 4 = 24
            count 5 = 0
            count 6 = 14
            count 7 = 2
            count 8 = 8
            count 9 = 0
            count 10 = 2
            count 11 = 2
            count 12 = 3
            count 13 = IAE
            count -1 = IAE
            take 0 0 = 1
            count 1 = 7
            count 2 = 6
            count 3 = 11
            count 4 = 22
            hour 0 = 2
            count 9 = 1
            """);
    }

    private void ifPut() {
        script.run("21 ifPut", """
            begin 2 = 4
            type 00+0;10+1;01+2;11+3 = 19
            build = 4
            ifPut 1 1 0 = 100
            ifPut 1 1 1 = 6
            ifPut 1 1 2 = 101
            ifPut 0 0 0 = 100
            ifPut 0 0 1 = 2
            ifPut 0 0 2 = 100
            ifPut 1 0 2 = 101
            ifPut 0 1 2 = 100
            count 1 = 4
            count 12 = 2
            ifPut 0 0 3 = IAE
            ifPut 0 0 -1 = IAE
            ifPut 2 0 3 = IOOBE
            ifPut 0 -1 0 = IOOBE
            type 00+0123012 = 10
            build = 1
            ifPut 0 0 0 = -1
            ifPut 0 0 1 = -1
            ifPut 0 0 2 = -1
            ifPut 0 0 3 = IAE
            """);
        script.run("21 ifPut, a block that hides others, and one that brings light", """
            begin 3 = 9
            type 02+0;20+0;12+0;22+0;00+0;11+0;02+0;21+0;01+0 = 44
            build = 9
            ifPut 1 1 0 = 98
            ifPut 1 1 1 = 6
            put 1 1 0 = 2
            count 2 = 7
            undo = 2
            count 2 = 9
            begin 2 = 4
            put 1 0 0 = 1
            stack 0 0 2 = 1
            ifPut 0 0 2 = 99
            hour 4 = 0
            ifPut 0 0 2 = 100
            """);
        script.run("21 ifPut, a block that nobody would see", """
            type 11+00;22+000 = 12
            build = 2
            ifPut 0 0 0 = 100
            ifPut 0 0 1 = 0
            """);
    }

    private void same() {
        script.run("24 same", """
            same 0 = 0
            same 1 = 0
            same 2 = IAE
            same -1 = IAE
            begin 3 = 9
            type 00+111;10+1;20+222;02+00 = 24
            build = 4
            same 0 = 9
            same 1 = 12
            put 1 1 0 = 1
            same 0 = 9
            same 1 = 15
            """);
    }

    private void bestTurn() {
        script.run("25 bestTurn", """
            bestTurn = 0
            begin 3 = 9
            type 10+01;12+2;21+33 = 16
            build = 3
            count 2 = 4
            bestTurn = 3
            turn = 4
            bestTurn = 2
            turn = 4
            bestTurn = 1
            turn = 5
            bestTurn = 0
            turn = 4
            bestTurn = 3
            stack 1 0 1 = 1
            count 12 = 6
            begin 3 = 9
            type 11+01;12+2;21+3;02+0 = 20
            build = 4
            bestTurn = 2
            turn = 4
            bestTurn = 1
            turn = 5
            bestTurn = 0
            turn = 5
            bestTurn = 0
            """);
    }

    private void seenShare() {
        script.run("26 seenShare", """
            seenShare = 1.0
            begin 2 = 4
            type 00+01;10+11;01+23;11+31 = 23
            build = 4
            seenShare = 0.875
            take 1 1 = 1
            seenShare = 0.8571428571428571
            cutOff 0 = 7
            seenShare = 1.0
            """);
    }

    private void digest() {
        SlantYard one = new SlantYard();
        SlantYard other = new SlantYard();
        PlainYard plain = new PlainYard();
        checks.due("27 digest, new", plain.digest(), one::digest);
        for (int k = 0; k < 40; k++) {
            int x = k * 7 % 4;
            int y = k * k % 4;
            int colour = k % 4;
            checks.due("27 put", Checks.told(() -> plain.put(x, y, colour)), () -> one.put(x, y, colour));
            checks.due("27 digest after put " + k, plain.digest(), one::digest);
        }
        checks.due("27 append", plain.append(126), () -> one.append(126));
        checks.due("27 digest with a buffer", plain.digest(), one::digest);
        checks.due("27 digest, another object", new PlainYard().digest(), other::digest);
    }

    public static void main(String[] args) {
        PromisesTest test = new PromisesTest();
        test.newObject();
        test.begin();
        test.put();
        test.take();
        test.carry();
        test.paint();
        test.turn();
        test.cutOff();
        test.hour();
        test.append();
        test.clearBuffer();
        test.firstErrors();
        test.build();
        test.undo();
        test.stack();
        test.shadows();
        test.block();
        test.picture();
        test.elevation();
        test.cut();
        test.count();
        test.ifPut();
        test.same();
        test.bestTurn();
        test.seenShare();
        test.digest();
        test.checks.end();
    }
}
