import java.util.HashMap;
import java.util.Map;

/** Long runs of arbitrary calls, right and wrong ones, each compared with the plain model. */
public final class ModelTest {
    private static final int RUNS = 400;
    /** No object is asked more often than the document promises answers. */
    private static final int CALLS = 512;
    /** What one step of a run may take of these. */
    private static final int CALLS_OF_STEP = 90;

    /** How a run picks its calls: what it mostly does, and how often an argument lies outside. */
    private static final int[] KINDS = {0, 1, 2, 3};

    private long seed = 20261119L;
    private final Checks checks = new Checks();

    private int below(int bound) {
        seed = seed * 6364136223846793005L + 1442695040888963407L;
        return (int) Long.remainderUnsigned(seed >>> 33, bound);
    }

    /** Mostly from least to most, now and then just outside or far away. */
    private int near(int least, int most) {
        int which = below(40);
        if (which == 0) {
            return least - 1;
        }
        if (which == 1) {
            return most + 1;
        }
        if (which == 2) {
            int[] far = {Integer.MIN_VALUE, Integer.MAX_VALUE, -1000, 1000, 36, -36, 100};
            return far[below(far.length)];
        }
        return least + below(most - least + 1);
    }

    private SlantYard yard;
    private PlainYard plain;
    private String told;
    private int made;

    private void begin(String title) {
        yard = new SlantYard();
        plain = new PlainYard();
        told = title;
        made = 0;
    }

    private void compare(String name, Checks.Call want, Checks.Call got) {
        made++;
        if (made > CALLS) {
            throw new IllegalStateException("too many calls of one object: " + told);
        }
        String due = Checks.told(want);
        checks.same(told + " " + name, due, Checks.told(got));
    }

    private void change(int what, int size) {
        int x = near(0, size - 1);
        int y = near(0, size - 1);
        int a = near(0, 3);
        int b = near(0, size - 1);
        int c = near(0, size - 1);
        switch (what) {
            case 0: case 1: case 2: case 3: case 4: case 5:
                compare("put " + x + " " + y + " " + a, () -> plain.put(x, y, a), () -> yard.put(x, y, a));
                break;
            case 6:
                compare("take " + x + " " + y, () -> plain.take(x, y), () -> yard.take(x, y));
                break;
            case 7:
                compare("carry " + x + " " + y + " " + b + " " + c,
                    () -> plain.carry(x, y, b, c), () -> yard.carry(x, y, b, c));
                break;
            case 8:
                compare("paint " + x + " " + y + " " + a, () -> plain.paint(x, y, a), () -> yard.paint(x, y, a));
                break;
            case 9:
                compare("turn", () -> plain.turn(), () -> yard.turn());
                break;
            case 10:
                int hour = near(0, 7);
                compare("hour " + hour, () -> plain.hour(hour), () -> yard.hour(hour));
                break;
            case 11:
                int z = below(3) > 0 ? 8 : near(0, 8);
                compare("cutOff " + z, () -> plain.cutOff(z), () -> yard.cutOff(z));
                break;
            case 12:
                int columns = near(2, 6);
                compare("begin " + columns, () -> plain.begin(columns), () -> yard.begin(columns));
                break;
            default:
                compare("undo", () -> plain.undo(), () -> yard.undo());
        }
    }

    private void text(int size) {
        if (below(8) == 0) {
            compare("clearBuffer", () -> plain.clearBuffer(), () -> yard.clearBuffer());
        }
        int length = below(4) == 0 ? 1 + below(69) : 4 + below(16);
        String order = "";
        while (order.length() < length) {
            order += (order.isEmpty() ? "" : ";") + below(size) + below(size);
            if (below(3) == 0) {
                order += "-" + (1 + below(4));
            } else {
                order += "+";
                for (int k = below(4); k >= 0; k--) {
                    order += below(4);
                }
            }
        }
        if (below(3) == 0) {
            int at = below(order.length());
            order = order.substring(0, at) + "0123456789+-;:/,~!".charAt(below(18)) + order.substring(at + 1);
        }
        for (int index = 0; index < order.length(); index++) {
            int code = below(200) == 0 ? near(33, 126) : order.charAt(index);
            compare("append " + code, () -> plain.append(code), () -> yard.append(code));
        }
        compare("firstError", () -> plain.firstError(), () -> yard.firstError());
        if (below(3) > 0) {
            compare("build", () -> plain.build(), () -> yard.build());
        }
    }

    private void look(int what, int size) {
        int x = near(0, size - 1);
        int y = near(0, size - 1);
        int z = near(0, 7);
        int a = near(0, 4);
        int i = near(-9, 6);
        int j = near(-9, 6);
        int t = near(0, 1);
        switch (what) {
            case 0:
                compare("stack " + x + " " + y + " " + a, () -> plain.stack(x, y, a), () -> yard.stack(x, y, a));
                break;
            case 1:
                compare("block " + x + " " + y + " " + z + " " + a,
                    () -> plain.block(x, y, z, a), () -> yard.block(x, y, z, a));
                break;
            case 2:
                compare("picture " + i + " " + j + " " + t + " " + a,
                    () -> plain.picture(i, j, t, a), () -> yard.picture(i, j, t, a));
                break;
            case 3:
                compare("elevation " + t + " " + x + " " + a,
                    () -> plain.elevation(t, x, a), () -> yard.elevation(t, x, a));
                break;
            case 4:
                compare("cut " + z + " " + y, () -> plain.cut(z, y), () -> yard.cut(z, y));
                break;
            case 5:
                int number = near(0, 12);
                compare("count " + number, () -> plain.count(number), () -> yard.count(number));
                break;
            case 6:
                compare("ifPut " + x + " " + y + " " + a, () -> plain.ifPut(x, y, a), () -> yard.ifPut(x, y, a));
                break;
            case 7:
                compare("ifHour " + z, () -> plain.ifHour(z), () -> yard.ifHour(z));
                break;
            case 8:
                compare("brightest", () -> plain.brightest(), () -> yard.brightest());
                break;
            case 9:
                compare("same " + t, () -> plain.same(t), () -> yard.same(t));
                break;
            case 10:
                compare("bestTurn", () -> plain.bestTurn(), () -> yard.bestTurn());
                break;
            default:
                compare("seenShare", () -> plain.seenShare(), () -> yard.seenShare());
        }
    }

    /** As many triangles as there are calls left, at arbitrary places one behind the other. */
    private void triangles() {
        int from = below(512);
        for (int k = 0; k < 512 && made + 5 <= CALLS; k++) {
            int number = (from + k * 37) % 512;
            int i = number / 32 - 9;
            int j = number / 2 % 16 - 9;
            int t = number % 2;
            for (int what = 0; what <= 4; what++) {
                int each = what;
                compare("picture " + i + " " + j + " " + t + " " + what,
                    () -> plain.picture(i, j, t, each), () -> yard.picture(i, j, t, each));
            }
        }
    }

    private void run(int number) {
        begin("run " + number);
        int kind = KINDS[number % KINDS.length];
        int lastSize = 4;
        int most = number % 20 == 0 ? CALLS / 2 : CALLS;
        for (int step = 0; made + CALLS_OF_STEP <= most; step++) {
            told = "run " + number + " step " + step;
            if (kind == 3 && step % 25 == 0) {
                text(lastSize);
            } else if (below(3) == 0 && kind != 2) {
                look(below(12), lastSize);
            } else {
                change(kind == 0 ? below(14) : below(16) < 9 ? below(6) : 6 + below(8), lastSize);
            }
            lastSize = plain.count(0);
            if (step % 16 == 0) {
                compare("digest", () -> plain.digest(), () -> yard.digest());
            }
        }
        if (number % 20 == 0) {
            triangles();
        }
    }

    /** Yards that are full or nearly so, which runs of single calls seldom reach. */
    private void fullYards() {
        for (int size = 2; size <= 6; size++) {
            begin("full yard of " + size);
            fill(size);
            compare("digest", () -> plain.digest(), () -> yard.digest());
            for (int k = 0; k < 40; k++) {
                change(6, size);
                change(6, size);
                compare("digest", () -> plain.digest(), () -> yard.digest());
            }
            for (int part = 0; part < 10; part++) {
                begin("full yard of " + size + ", its triangles");
                fill(size);
                triangles();
            }
        }
    }

    private void fill(int size) {
        compare("begin", () -> plain.begin(size), () -> yard.begin(size));
        for (int square = 0; square < size * size; square++) {
            int x = square % size;
            int y = square / size;
            for (int k = 0; k < 8; k++) {
                int colour = below(4);
                compare("put", () -> plain.put(x, y, colour), () -> yard.put(x, y, colour));
            }
        }
    }

    /** The fewest and the most blocks with the same elevations, found by trying every yard of low stacks. */
    private void everyLowYard(int size, int most) {
        int squares = size * size;
        int yards = 1;
        for (int k = 0; k < squares; k++) {
            yards *= most + 1;
        }
        Map<String, int[]> bounds = new HashMap<>();
        Map<String, int[]> examples = new HashMap<>();
        for (int number = 0; number < yards; number++) {
            int[] heights = new int[squares];
            int[] rows = new int[size];
            int[] columns = new int[size];
            int blocks = 0;
            for (int square = 0, rest = number; square < squares; square++, rest /= most + 1) {
                heights[square] = rest % (most + 1);
                blocks += heights[square];
                rows[square / size] = Math.max(rows[square / size], heights[square]);
                columns[square % size] = Math.max(columns[square % size], heights[square]);
            }
            String key = java.util.Arrays.toString(rows) + java.util.Arrays.toString(columns);
            int[] bound = bounds.computeIfAbsent(key, k -> new int[] {999, 0});
            bound[0] = Math.min(bound[0], blocks);
            bound[1] = Math.max(bound[1], blocks);
            examples.put(key, heights);
        }
        for (Map.Entry<String, int[]> entry : bounds.entrySet()) {
            SlantYard there = new SlantYard();
            there.begin(size);
            int[] heights = examples.get(entry.getKey());
            for (int square = 0; square < squares; square++) {
                for (int k = 0; k < heights[square]; k++) {
                    there.put(square % size, square / size, 0);
                }
            }
            checks.due("fewest for " + entry.getKey(), entry.getValue()[0], () -> there.same(0));
            checks.due("most for " + entry.getKey(), entry.getValue()[1], () -> there.same(1));
        }
    }

    public static void main(String[] args) {
        ModelTest test = new ModelTest();
        for (int number = 0; number < RUNS; number++) {
            test.run(number);
        }
        test.fullYards();
        test.everyLowYard(2, 8);
        test.everyLowYard(3, 3);
        test.everyLowYard(4, 1);
        test.checks.end();
    }
}
