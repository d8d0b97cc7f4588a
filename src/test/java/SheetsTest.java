/** Promises 20 to 24 and 29: sheet, lose, put, cell, copy, fault. */
public final class SheetsTest {
    private static final long LOST = Long.MIN_VALUE;

    private SheetsTest() {
    }

    private static void comes(LieNights x, long got, long want, int fault) {
        Bench.due("the call", got, want);
        Bench.due("its fault", x.fault(), fault);
    }

    private static void sheet() {
        LieNights x = new LieNights();
        comes(x, x.sheet(0, 0, 60), 1, 0);
        comes(x, x.put(0, 59, 7), 1, 0);
        comes(x, x.put(0, 0, 7), 1, 0);
        comes(x, x.sheet(0, 2, 60), 1, 0);
        comes(x, x.cell(0, 0, 2), 0, 0);
        comes(x, x.cell(0, 59, 2), 0, 0);
        comes(x, x.sheet(1, 1, 0), 1, 0);
        comes(x, x.cell(1, 0, 1), LOST, 3);
        comes(x, x.sheet(4, 3, 61), -1, 0);
        comes(x, x.sheet(-1, 0, 1), -1, 0);
        comes(x, x.sheet(0, 3, -1), -2, 0);
        comes(x, x.sheet(0, -1, 1), -2, 0);
        comes(x, x.sheet(0, 0, 61), -2, 0);
        comes(x, x.sheet(0, 0, Integer.MAX_VALUE), -2, 0);
        comes(x, x.sheet(0, 0, -1), -14, 4);
        comes(x, x.sheet(0, 0, Integer.MIN_VALUE), -14, 4);
        comes(x, x.cell(0, 59, 2), 0, 0);
        comes(x, x.sheet(3, 0, 1), 1, 0);
        comes(x, x.sheet(2, 0, -1), -14, 4);
        comes(x, x.put(2, 0, 1), -11, 1);
    }

    private static void lose() {
        LieNights x = new LieNights();
        Bench.due("nothing to lose", x.lose(2), 0);
        x.sheet(2, 1, 0);
        Bench.due("an empty row is something", x.lose(2), 1);
        Bench.due("lost", x.lose(2), 0);
        comes(x, x.cell(2, 0, 0), LOST, 1);
        Bench.due("UNKNOWN", x.lose(4), -1);
        Bench.due("UNKNOWN below", x.lose(-1), -1);
        Bench.due("a call that names no fault leaves it", x.fault(), 1);
        x.sheet(2, 2, 3);
        x.put(2, 1, 9);
        x.lose(2);
        x.sheet(2, 2, 3);
        comes(x, x.cell(2, 1, 2), 0, 0);
    }

    private static void putCutsToTheLane() {
        LieNights x = new LieNights();
        int[] numbers = {0, 127, 128, 255, 256, -1, -129, 32767, 32768, 65536, Integer.MAX_VALUE, Integer.MIN_VALUE};
        for (int lane = 0; lane < 3; lane++) {
            Bench.row(x, lane, lane, numbers);
            for (int i = 0; i < numbers.length; i++) {
                int want = lane == 0 ? (byte) numbers[i] : lane == 1 ? (short) numbers[i] : numbers[i];
                comes(x, x.cell(lane, i, lane), want, 0);
            }
        }
    }

    private static void putAndCell() {
        LieNights x = new LieNights();
        x.sheet(1, 1, 3);
        comes(x, x.put(1, 3, 1), -13, 3);
        comes(x, x.put(1, -1, 1), -13, 3);
        comes(x, x.put(1, Integer.MIN_VALUE, 1), -13, 3);
        comes(x, x.put(0, -1, 1), -11, 1);
        comes(x, x.put(4, 0, 1), -1, 0);
        comes(x, x.put(-1, 0, 1), -1, 0);
        comes(x, x.put(1, 2, 40000), 1, 0);
        comes(x, x.cell(1, 2, 1), -25536, 0);
        comes(x, x.cell(1, 1, 1), 0, 0);
        comes(x, x.cell(1, 2, 0), LOST, 2);
        comes(x, x.cell(1, 9, 2), LOST, 2);
        comes(x, x.cell(0, 9, 2), LOST, 1);
        comes(x, x.cell(1, 3, 1), LOST, 3);
        comes(x, x.cell(1, -1, 1), LOST, 3);
        comes(x, x.cell(1, 0, 3), LOST, 0);
        x.put(0, 0, 0);
        comes(x, x.cell(1, 0, -1), LOST, 0);
        x.put(0, 0, 0);
        comes(x, x.cell(4, 0, 0), LOST, 0);
        x.put(0, 0, 0);
        comes(x, x.cell(-1, 0, 0), LOST, 0);
    }

    private static void holds(LieNights x, int k, int lane, int... want) {
        for (int i = 0; i < want.length; i++) {
            Bench.due("cell " + i, x.cell(k, i, lane), want[i]);
        }
    }

    private static void copy() {
        LieNights x = new LieNights();
        Bench.row(x, 0, 2, 1, 2, 3, 4, 5);
        Bench.row(x, 1, 2, 6, 7, 8);
        comes(x, x.copy(0, 2, 1, 1, 2), 2, 0);
        holds(x, 1, 2, 6, 3, 4);
        holds(x, 0, 2, 1, 2, 3, 4, 5);
        comes(x, x.copy(0, 0, 0, 1, 4), 4, 0);
        holds(x, 0, 2, 1, 1, 2, 3, 4);
        comes(x, x.copy(0, 1, 0, 0, 4), 4, 0);
        holds(x, 0, 2, 1, 2, 3, 4, 4);
        comes(x, x.copy(0, 0, 0, 0, 5), 5, 0);
        holds(x, 0, 2, 1, 2, 3, 4, 4);
        comes(x, x.copy(1, 0, 0, 2, 3), 3, 0);
        holds(x, 0, 2, 1, 2, 6, 3, 4);
        comes(x, x.copy(0, 5, 1, 3, 0), 0, 0);
    }

    private static void copyRefused() {
        LieNights x = new LieNights();
        Bench.row(x, 0, 0, 1, 2, 3);
        Bench.row(x, 1, 0, 4, 5);
        Bench.row(x, 2, 1, 6, 7);
        comes(x, x.copy(4, 0, 3, 0, 9), -1, 0);
        comes(x, x.copy(-1, 0, 0, 0, 1), -1, 0);
        comes(x, x.copy(3, 0, 4, 0, 9), -1, 0);
        comes(x, x.copy(0, 0, -1, 0, 1), -1, 0);
        comes(x, x.copy(3, 0, 0, 0, 9), -11, 1);
        comes(x, x.copy(0, 0, 3, 0, 9), -11, 1);
        comes(x, x.copy(3, 0, 3, 0, 0), -11, 1);
        comes(x, x.copy(0, 0, 2, 0, 9), -12, 2);
        comes(x, x.copy(2, 0, 0, -1, 0), -12, 2);
        int[][] beyond = {{-1, 0, 1}, {0, -1, 1}, {0, 0, -1}, {2, 0, 2}, {0, 1, 2}, {4, 0, 0}, {0, 3, 0},
            {Integer.MAX_VALUE, 0, 1}, {0, Integer.MAX_VALUE, 1}, {1, 1, Integer.MAX_VALUE}, {3, 2, 1}};
        for (int[] b : beyond) {
            comes(x, x.copy(0, b[0], 1, b[1], b[2]), -13, 3);
        }
        holds(x, 0, 0, 1, 2, 3);
        holds(x, 1, 0, 4, 5);
        holds(x, 2, 1, 6, 7);
    }

    private static void faultIsOfTheLatestThatNamesOne() {
        LieNights x = Bench.told("a,p1,s2,v3;1/1");
        long[] calls = {x.put(3, 0, 0), x.ofAnswer(0, 0), x.move(0, 1), x.grow(1), x.shown(0, 1), x.worst(1), x.ask(1),
            x.mean(1, 0), x.parts(0, 1), x.months(1), x.down(1), x.reading(0, 1), x.back(1), x.left(), x.kinds(0),
            x.places(0), x.odds(0, 0), x.lose(3), x.tell(0), x.whisper(0), x.trace(), x.many(0)};
        Bench.due("the first comes to a fault", calls[0], -11);
        Bench.due("the fault of the first of " + calls.length + " calls", x.fault(), 1);
        Bench.due("and once more", x.fault(), 1);
        comes(x, x.as(0, 1), -12, 2);
        comes(x, x.nights(0, 0, 0, 0, 0, 0), 7, 0);
        comes(x, x.as(0, 2), -12, 2);
        comes(x, x.as(0, 3), -2, 0);
        comes(x, x.put(0, -1, 0), -13, 3);
        comes(x, x.secret(0, 0, 0, 5), -105, 0);
        comes(x, x.sheet(0, 0, -1), -14, 4);
        comes(x, x.copy(0, 0, 0, 0, 0), 0, 0);
    }

    public static void main(String[] args) {
        sheet();
        lose();
        putCutsToTheLane();
        putAndCell();
        copy();
        copyRefused();
        faultIsOfTheLatestThatNamesOne();
        Bench.end("SheetsTest");
    }
}
