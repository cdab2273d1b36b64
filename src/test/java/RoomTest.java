import java.lang.management.ManagementFactory;

/** No look and no change makes an object or an array; a new object's rows are small. */
public final class RoomTest {
    private static final int YARDS = 40;
    /** So few that no object gets more calls than the document promises answers for. */
    private static final int ROUNDS = 12;
    /** What the measuring itself may take up. */
    private static final long SLACK = 20000;
    private static final long MOST_FOR_NEW = 40000;

    private static final com.sun.management.ThreadMXBean THREADS =
        (com.sun.management.ThreadMXBean) ManagementFactory.getThreadMXBean();

    private static long taken() {
        return THREADS.getCurrentThreadAllocatedBytes();
    }

    /** Every call but for those that throw. */
    private static long round(SlantYard yard, int k) {
        long sum = yard.digest() + yard.bestTurn() + yard.brightest() + yard.turn();
        int x = k % 6;
        int y = k / 6 % 6;
        if (yard.stack(x, y, 0) < 8) {
            sum += yard.put(x, y, k % 4);
        }
        sum += yard.paint(x, y, 3) + yard.take(x, y) + yard.hour(k % 8) + yard.cutOff(8);
        if (yard.stack(x, y, 0) + yard.stack(0, 5, 0) <= 8 && x != 0) {
            sum += yard.carry(x, y, 0, 5);
        }
        sum += yard.append('0') + yard.append('0') + yard.append('-') + yard.append('1') + yard.firstError();
        sum += yard.build() + yard.clearBuffer() + yard.undo() + yard.undo();
        return sum;
    }

    private static SlantYard filled() {
        SlantYard yard = new SlantYard();
        yard.begin(6);
        for (int square = 0; square < 36; square++) {
            for (int k = 0; k < square % 9; k++) {
                yard.put(square % 6, square / 6, k % 4);
            }
        }
        return yard;
    }

    public static void main(String[] args) {
        Checks checks = new Checks();
        long sum = round(filled(), 0);
        long before = taken();
        SlantYard fresh = new SlantYard();
        long ofNew = taken() - before;
        checks.due("bytes of a new object are few: " + ofNew, true, () -> ofNew < MOST_FOR_NEW);
        sum += fresh.digest();

        SlantYard[] yards = new SlantYard[YARDS];
        for (int k = 0; k < YARDS; k++) {
            yards[k] = filled();
        }
        before = taken();
        for (int k = 0; k < YARDS * ROUNDS; k++) {
            sum += round(yards[k / ROUNDS], k);
        }
        long ofCalls = taken() - before;
        checks.due("bytes of " + YARDS * ROUNDS + " rounds are few: " + ofCalls, true, () -> ofCalls < SLACK);
        System.out.println("a new object takes " + ofNew + " bytes, the calls " + ofCalls + " (sum " + sum + ")");
        checks.end();
    }
}
