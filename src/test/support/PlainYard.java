import java.util.ArrayList;
import java.util.HashMap;
import java.util.HashSet;
import java.util.List;
import java.util.Map;
import java.util.Set;

/**
 * The document once more, word by word and as slow as it likes, to compare SlantYard with: nothing is kept but the
 * stacks, and each answer is found by looking at all blocks anew.
 */
final class PlainYard {
    private static final int[][] SUN = {{1, 0}, {1, 1}, {0, 1}, {-1, 1}, {-1, 0}, {-1, -1}, {0, -1}, {1, -1}};
    private static final int[] STEEP = {1, 2, 3, 3, 2, 1, 1, 1};

    /** A state: for each square the colours of its blocks, from below. */
    private static final class State {
        int size = 4;
        int hour = 0;
        Map<List<Integer>, List<Integer>> stacks = new HashMap<>();

        State() {
            clear(4);
        }

        State(State other) {
            size = other.size;
            hour = other.hour;
            other.stacks.forEach((square, stack) -> stacks.put(square, new ArrayList<>(stack)));
        }

        void clear(int columns) {
            size = columns;
            stacks.clear();
            for (int x = 0; x < columns; x++) {
                for (int y = 0; y < columns; y++) {
                    stacks.put(List.of(x, y), new ArrayList<>());
                }
            }
        }

        List<Integer> at(int x, int y) {
            return stacks.get(List.of(x, y));
        }

        State turned() {
            State goal = new State();
            goal.clear(size);
            goal.hour = hour;
            stacks.forEach((square, stack) ->
                goal.stacks.put(List.of(size - 1 - square.get(1), square.get(0)), new ArrayList<>(stack)));
            return goal;
        }

        int blocks() {
            int sum = 0;
            for (List<Integer> stack : stacks.values()) {
                sum += stack.size();
            }
            return sum;
        }

        boolean dark(int x, int y, int hour) {
            for (int k = 1; k < 20; k++) {
                List<Integer> there = at(x + k * SUN[hour][0], y + k * SUN[hour][1]);
                if (there != null && there.size() >= at(x, y).size() + k * STEEP[hour]) {
                    return true;
                }
            }
            return false;
        }

        int darkSquares(int hour) {
            int sum = 0;
            for (List<Integer> square : stacks.keySet()) {
                sum += dark(square.get(0), square.get(1), hour) ? 1 : 0;
            }
            return sum;
        }

        int[] elevation(int side) {
            int[] greatest = new int[size];
            stacks.forEach((square, stack) -> {
                int at = side == 0 ? square.get(1) : square.get(0);
                greatest[at] = Math.max(greatest[at], stack.size());
            });
            return greatest;
        }

        /** For each triangle (i, j, half) what is seen: x, y, z, face. */
        Map<List<Integer>, List<Integer>> picture() {
            Map<List<Integer>, List<Integer>> seen = new HashMap<>();
            stacks.forEach((square, stack) -> {
                for (int z = 0; z < stack.size(); z++) {
                    for (int face = 0; face < 3; face++) {
                        List<Integer> me = List.of(square.get(0), square.get(1), z, face);
                        for (List<Integer> triangle : trianglesOf(me)) {
                            List<Integer> other = seen.get(triangle);
                            if (other == null || near(me) > near(other)) {
                                seen.put(triangle, me);
                            } else if (near(me) == near(other)) {
                                throw new AssertionError("two blocks are as near");
                            }
                        }
                    }
                }
            });
            return seen;
        }

        Set<List<Integer>> seenBlocks() {
            Set<List<Integer>> blocks = new HashSet<>();
            for (List<Integer> face : picture().values()) {
                blocks.add(face.subList(0, 3));
            }
            return blocks;
        }
    }

    private static int near(List<Integer> face) {
        return face.get(0) + face.get(1) + face.get(2);
    }

    static List<List<Integer>> trianglesOf(List<Integer> face) {
        int p = face.get(0) - face.get(2);
        int q = face.get(1) - face.get(2);
        switch (face.get(3)) {
            case 0: return List.of(List.of(p - 1, q - 1, 0), List.of(p - 1, q - 1, 1));
            case 1: return List.of(List.of(p, q - 1, 1), List.of(p, q, 0));
            default: return List.of(List.of(p - 1, q, 0), List.of(p, q, 1));
        }
    }

    private State now = new State();
    private final List<State> saved = new ArrayList<>();
    private String buffer = "";

    private void save() {
        saved.add(new State(now));
        if (saved.size() > 6) {
            saved.remove(0);
        }
    }

    private boolean no(int x, int y) {
        return now.at(x, y) == null;
    }

    private static void index(boolean wrong) {
        if (wrong) {
            throw new IndexOutOfBoundsException();
        }
    }

    private static void argument(boolean wrong) {
        if (wrong) {
            throw new IllegalArgumentException();
        }
    }

    private static void state(boolean wrong) {
        if (wrong) {
            throw new IllegalStateException();
        }
    }

    private static boolean out(int value, int least, int most) {
        return value < least || value > most;
    }

    int begin(int size) {
        argument(out(size, 2, 6));
        save();
        now.clear(size);
        return size * size;
    }

    int put(int x, int y, int colour) {
        index(no(x, y));
        argument(out(colour, 0, 3));
        state(now.at(x, y).size() == 8);
        save();
        now.at(x, y).add(colour);
        return now.at(x, y).size();
    }

    int take(int x, int y) {
        index(no(x, y));
        state(now.at(x, y).isEmpty());
        save();
        return now.at(x, y).remove(now.at(x, y).size() - 1);
    }

    int carry(int x, int y, int goalX, int goalY) {
        index(no(x, y) || no(goalX, goalY));
        state(x == goalX && y == goalY || now.at(x, y).size() + now.at(goalX, goalY).size() > 8);
        save();
        now.at(goalX, goalY).addAll(now.at(x, y));
        now.at(x, y).clear();
        return now.at(goalX, goalY).size();
    }

    int paint(int x, int y, int colour) {
        index(no(x, y));
        argument(out(colour, 0, 3));
        state(now.at(x, y).isEmpty());
        save();
        return now.at(x, y).set(now.at(x, y).size() - 1, colour);
    }

    int turn() {
        save();
        now = now.turned();
        return now.seenBlocks().size();
    }

    int cutOff(int z) {
        argument(out(z, 0, 8));
        save();
        int away = 0;
        for (List<Integer> stack : now.stacks.values()) {
            while (stack.size() > z) {
                stack.remove(stack.size() - 1);
                away++;
            }
        }
        return away;
    }

    int hour(int hour) {
        argument(out(hour, 0, 7));
        save();
        int before = now.hour;
        now.hour = hour;
        return before;
    }

    int append(int code) {
        argument(out(code, 33, 126));
        state(buffer.length() == 60);
        buffer += (char) code;
        return buffer.length();
    }

    int clearBuffer() {
        int before = buffer.length();
        buffer = "";
        return before;
    }

    private static final String ORDER = "[0-5][0-5](\\+[0-3]+|-[1-8])";

    private static boolean complete(String text) {
        return text.matches(ORDER + "(;" + ORDER + ")*");
    }

    /** Whether a yard as a text begins so: one of these ends makes a complete one of it. */
    private static boolean begins(String text) {
        for (String end : new String[] {"", "0", "1", "+0", "0+0", "00+0"}) {
            if (complete(text + end)) {
                return true;
            }
        }
        return false;
    }

    int firstError() {
        for (int index = 0; index < buffer.length(); index++) {
            if (!begins(buffer.substring(0, index + 1))) {
                return index;
            }
        }
        return buffer.length();
    }

    int build() {
        argument(!complete(buffer));
        save();
        int done = 0;
        for (String order : buffer.split(";")) {
            List<Integer> stack = now.at(order.charAt(0) - '0', order.charAt(1) - '0');
            String rest = order.substring(3);
            boolean puts = order.charAt(2) == '+';
            if (stack == null || puts && stack.size() + rest.length() > 8
                    || !puts && stack.size() < Integer.parseInt(rest)) {
                break;
            }
            for (int index = 0; puts && index < rest.length(); index++) {
                stack.add(rest.charAt(index) - '0');
            }
            for (int k = 0; !puts && k < Integer.parseInt(rest); k++) {
                stack.remove(stack.size() - 1);
            }
            done++;
        }
        buffer = "";
        return done;
    }

    int undo() {
        state(saved.isEmpty());
        now = saved.remove(saved.size() - 1);
        return saved.size();
    }

    int stack(int x, int y, int what) {
        index(no(x, y));
        argument(out(what, 0, 3));
        List<Integer> stack = now.at(x, y);
        switch (what) {
            case 0: return stack.size();
            case 1: return stack.isEmpty() ? -1 : stack.get(stack.size() - 1);
            case 2: return now.dark(x, y, now.hour) ? 1 : 0;
            default:
                int seen = 0;
                for (List<Integer> block : now.seenBlocks()) {
                    seen += block.get(0) == x && block.get(1) == y ? 1 : 0;
                }
                return seen;
        }
    }

    int block(int x, int y, int z, int what) {
        index(no(x, y));
        argument(out(z, 0, 7) || out(what, 0, 4));
        if (z >= now.at(x, y).size()) {
            return -1;
        }
        if (what == 0) {
            return now.at(x, y).get(z);
        }
        if (what == 4) {
            return now.seenBlocks().contains(List.of(x, y, z)) ? 1 : 0;
        }
        int triangles = 0;
        for (List<Integer> face : now.picture().values()) {
            triangles += face.equals(List.of(x, y, z, what - 1)) ? 1 : 0;
        }
        return triangles;
    }

    int picture(int i, int j, int triangle, int what) {
        argument(out(i, -9, 6) || out(j, -9, 6) || out(triangle, 0, 1) || out(what, 0, 4));
        List<Integer> face = now.picture().get(List.of(i, j, triangle));
        if (face == null) {
            return -1;
        }
        return what < 4 ? face.get(what) : now.at(face.get(0), face.get(1)).get(face.get(2));
    }

    int elevation(int side, int at, int what) {
        index(out(at, 0, now.size - 1));
        argument(out(side, 0, 1) || out(what, 0, 2));
        int greatest = now.elevation(side)[at];
        int having = 0;
        int blocks = 0;
        for (int k = 0; k < now.size; k++) {
            int height = (side == 0 ? now.at(k, at) : now.at(at, k)).size();
            having += height == greatest ? 1 : 0;
            blocks += height;
        }
        return what == 0 ? greatest : what == 1 ? having : blocks;
    }

    int cut(int z, int y) {
        index(out(y, 0, now.size - 1));
        argument(out(z, 0, 7));
        int mask = 0;
        for (int x = 0; x < now.size; x++) {
            mask += now.at(x, y).size() > z ? 1 << x : 0;
        }
        return mask;
    }

    int count(int what) {
        argument(out(what, 0, 12));
        Map<List<Integer>, List<Integer>> picture = now.picture();
        int number = 0;
        switch (what) {
            case 0: return now.size;
            case 1: return now.blocks();
            case 2: return now.seenBlocks().size();
            case 3: return new HashSet<>(picture.values()).size();
            case 4: return picture.size();
            case 9: return now.darkSquares(now.hour);
            case 10:
                for (List<Integer> stack : now.stacks.values()) {
                    number = Math.max(number, stack.size());
                }
                return number;
            case 11: return now.hour;
            case 12: return saved.size();
            default:
                for (List<Integer> face : picture.values()) {
                    number += now.at(face.get(0), face.get(1)).get(face.get(2)) == what - 5 ? 1 : 0;
                }
                return number;
        }
    }

    int ifPut(int x, int y, int what) {
        index(no(x, y));
        argument(out(what, 0, 2));
        if (now.at(x, y).size() == 8) {
            return -1;
        }
        State then = new State(now);
        then.at(x, y).add(0);
        if (what == 0) {
            return then.seenBlocks().size() - now.seenBlocks().size() + 100;
        }
        if (what == 2) {
            return then.darkSquares(now.hour) - now.darkSquares(now.hour) + 100;
        }
        List<Integer> block = List.of(x, y, now.at(x, y).size());
        Map<List<Integer>, List<Integer>> picture = then.picture();
        int shown = 0;
        for (List<Integer> triangle : now.picture().keySet()) {
            shown += picture.get(triangle).subList(0, 3).equals(block) ? 1 : 0;
        }
        return shown;
    }

    int ifHour(int hour) {
        argument(out(hour, 0, 7));
        return now.darkSquares(hour);
    }

    int brightest() {
        int best = 0;
        for (int hour = 7; hour >= 0; hour--) {
            best = now.darkSquares(hour) <= now.darkSquares(best) ? hour : best;
        }
        return best;
    }

    int same(int what) {
        argument(out(what, 0, 1));
        int[] rows = now.elevation(0);
        int[] columns = now.elevation(1);
        return what == 0 ? fewest(rows, columns) : most(rows, columns);
    }

    /** From the highest line down; a row and a column that are as high share a stack. */
    static int fewest(int[] rows, int[] columns) {
        List<Integer> open = new ArrayList<>();
        for (int column : columns) {
            open.add(column);
        }
        int sum = 0;
        for (int row : rows) {
            open.remove((Object) row);
            sum += row;
        }
        for (int column : open) {
            sum += column;
        }
        return sum;
    }

    static int most(int[] rows, int[] columns) {
        int sum = 0;
        for (int row : rows) {
            for (int column : columns) {
                sum += row < column ? row : column;
            }
        }
        return sum;
    }

    int bestTurn() {
        int best = 0;
        int most = -1;
        State then = new State(now);
        for (int quarters = 0; quarters < 4; quarters++) {
            if (then.seenBlocks().size() > most) {
                most = then.seenBlocks().size();
                best = quarters;
            }
            then = then.turned();
        }
        return best;
    }

    double seenShare() {
        return now.blocks() == 0 ? 1.0 : (double) now.seenBlocks().size() / now.blocks();
    }

    long digest() {
        List<Long> values = new ArrayList<>();
        for (int what = 0; what <= 12; what++) {
            values.add((long) count(what));
        }
        for (int y = 0; y < now.size; y++) {
            for (int x = 0; x < now.size; x++) {
                for (int what = 0; what <= 3; what++) {
                    values.add((long) stack(x, y, what));
                }
                for (int z = 0; z < now.at(x, y).size(); z++) {
                    for (int what = 0; what <= 4; what++) {
                        values.add((long) block(x, y, z, what));
                    }
                }
                for (int what = 0; what <= 2; what++) {
                    values.add((long) ifPut(x, y, what));
                }
            }
        }
        Map<List<Integer>, List<Integer>> picture = now.picture();
        for (int i = -9; i <= 6; i++) {
            for (int j = -9; j <= 6; j++) {
                for (int triangle = 0; triangle <= 1; triangle++) {
                    List<Integer> face = picture.get(List.of(i, j, triangle));
                    values.add(face == null ? -1L : (long) face.get(0));
                    values.add(face == null ? -1L : (long) face.get(3));
                }
            }
        }
        for (int side = 0; side <= 1; side++) {
            for (int at = 0; at < now.size; at++) {
                for (int what = 0; what <= 2; what++) {
                    values.add((long) elevation(side, at, what));
                }
            }
        }
        for (int z = 0; z <= 1; z++) {
            for (int y = 0; y < now.size; y++) {
                values.add((long) cut(z, y));
            }
        }
        for (int hour = 0; hour < 8; hour++) {
            values.add((long) ifHour(hour));
        }
        values.add((long) brightest());
        values.add((long) same(0));
        values.add((long) same(1));
        values.add((long) bestTurn());
        values.add(Double.doubleToLongBits(seenShare()));
        values.add((long) buffer.length());
        for (int index = 0; index < buffer.length(); index++) {
            values.add((long) buffer.charAt(index));
        }
        long hash = 2789;
        for (long value : values) {
            hash = 31 * hash + value;
        }
        return hash;
    }
}
