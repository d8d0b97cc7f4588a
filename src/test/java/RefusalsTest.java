/**
 * Each refusal and each fault of each call, the numbers just beyond what is taken and far beyond it, which wins where
 * two hold, what fault() tells, and that nothing else changes by it.
 */
public final class RefusalsTest {
    private static final long LOST = Long.MIN_VALUE;
    private static final int UNKNOWN = -1, OUTSIDE = -2, STATE = -3, FULL = -4;
    private static final int NULL = 1, CAST = 2, INDEX = 3, SIZE = 4;
    private static final int LEAST = Integer.MIN_VALUE, MOST = Integer.MAX_VALUE;
    // A call that names no FAULTS leaves what fault() tells.
    private static final int KEPT = -1;

    private RefusalsTest() {
    }

    private static void refused(String call, Ways.Way way, Ways.Call on, long want, int fault) {
        LieNights x = way.made();
        int ahead = Ways.leaveAnotherFault(x, fault);
        Bench.due(call, on.on(x), want);
        Bench.due("fault() behind " + call, x.fault(), fault == KEPT ? ahead : fault);
        LieNights y = way.made();
        on.on(y);
        Bench.due(call + " once more", on.on(y), want);
        Seen before = Seen.of(way.made());
        Bench.due("what " + call + " changes", Seen.of(x).unlike(before), "");
        Bench.due("what " + call + " changes once more", Seen.of(y).unlike(before), "");
    }

    private static void kept(String call, Ways.Call on, long want) {
        refused(call, Ways::ready, on, want, KEPT);
    }

    private static void keptAnew(String call, Ways.Call on, long want) {
        refused(call + " of a new object", Ways::anew, on, want, KEPT);
        refused(call + " without a secret", Ways::sheetsAlone, on, want, KEPT);
    }

    private static void set(String call, Ways.Call on, long want) {
        refused(call, Ways::ready, on, want, 0);
    }

    private static void faulted(String call, Ways.Call on, int fault) {
        refused(call, Ways::ready, on, -10 - fault, fault);
    }

    private static int[] beyond(int most) {
        return new int[] {LEAST, -1, most + 1, MOST};
    }

    // ---- 1

    private static void secretRefused() {
        for (int k : beyond(3)) {
            set("secret, UNKNOWN", x -> x.secret(k, 0, 0, 21), UNKNOWN);
            set("secret, UNKNOWN ahead of OUTSIDE", x -> x.secret(k, 3, 0, 21), UNKNOWN);
            set("secret, UNKNOWN ahead of SIZE", x -> x.secret(k, 0, 0, -1), UNKNOWN);
            set("secret, UNKNOWN ahead of INDEX", x -> x.secret(k, 0, -1, 1), UNKNOWN);
            set("secret, UNKNOWN ahead of all", x -> x.secret(k, -1, -1, -1), UNKNOWN);
        }
        for (int lane : beyond(2)) {
            set("secret, OUTSIDE", x -> x.secret(0, lane, 0, 21), OUTSIDE);
            set("secret, OUTSIDE ahead of NULL", x -> x.secret(3, lane, 0, 0), OUTSIDE);
            set("secret, OUTSIDE ahead of SIZE", x -> x.secret(0, lane, 0, -1), OUTSIDE);
            set("secret, OUTSIDE ahead of INDEX", x -> x.secret(0, lane, 22, 0), OUTSIDE);
            refused("secret, OUTSIDE of a new object", Ways::anew, x -> x.secret(0, lane, 0, 0), OUTSIDE, 0);
        }
        for (int k = 0; k < 4; k++) {
            int sheet = k;
            refused("secret, NULL of a new object", Ways::anew, x -> x.secret(sheet, sheet % 3, 0, 0), -11, NULL);
        }
    }

    private static void secretFaulted() {
        // The lanes of sheets 0, 1 and 2, a row without cells among them.
        int[] lanes = {0, 2, 1};
        for (int k = 0; k < 3; k++) {
            for (int by = 1; by < 3; by++) {
                int sheet = k;
                int lane = (lanes[k] + by) % 3;
                faulted("secret, CAST", x -> x.secret(sheet, lane, 0, 0), CAST);
                faulted("secret, CAST ahead of SIZE", x -> x.secret(sheet, lane, 0, -1), CAST);
                faulted("secret, CAST ahead of INDEX", x -> x.secret(sheet, lane, -1, 0), CAST);
                faulted("secret, CAST ahead of INDEX, too many", x -> x.secret(sheet, lane, 0, 61), CAST);
            }
        }
        for (int k = 0; k < 3; k++) {
            int lane = k;
            faulted("secret, nothing is no CAST", x -> x.secret(3, lane, 0, 0), NULL);
            faulted("secret, NULL ahead of SIZE", x -> x.secret(3, lane, 0, -1), NULL);
            faulted("secret, NULL ahead of INDEX", x -> x.secret(3, lane, -1, 0), NULL);
            faulted("secret, NULL ahead of INDEX, too many", x -> x.secret(3, lane, 0, 1), NULL);
        }
        for (int n : new int[] {-1, -2, LEAST}) {
            faulted("secret, SIZE", x -> x.secret(0, 0, 0, n), SIZE);
            faulted("secret, SIZE at the end", x -> x.secret(0, 0, 21, n), SIZE);
            for (int i : beyond(21)) {
                faulted("secret, SIZE ahead of INDEX", x -> x.secret(0, 0, i, n), SIZE);
            }
        }
        for (int i : beyond(21)) {
            faulted("secret, INDEX, though none is taken", x -> x.secret(0, 0, i, 0), INDEX);
            faulted("secret, INDEX", x -> x.secret(0, 0, i, 1), INDEX);
            faulted("secret, INDEX of all", x -> x.secret(0, 0, i, 21), INDEX);
            faulted("secret, INDEX of the most", x -> x.secret(0, 0, i, MOST), INDEX);
        }
        for (int n : new int[] {22, 60, 61, MOST}) {
            faulted("secret, INDEX, one too many", x -> x.secret(0, 0, 0, n), INDEX);
            faulted("secret, INDEX of the last", x -> x.secret(0, 0, 20, n - 20), INDEX);
            faulted("secret, INDEX at the end", x -> x.secret(0, 0, 21, n - 21), INDEX);
        }
        faulted("secret, INDEX of a row without cells", x -> x.secret(2, 1, 0, 1), INDEX);
        faulted("secret, INDEX behind a row without cells", x -> x.secret(2, 1, 1, 0), INDEX);
    }

    /** A TEXT with a FIRST FAULT is refused as well: it comes to no fault of the machine's. */
    private static void secretWithAFirstFault() {
        for (int n = 0; n < 21; n++) {
            int codes = n;
            // With one or two of its pillars it is whole.
            if (n != 17 && n != 19) {
                set("secret of " + n + " codes", x -> x.secret(0, 0, 0, codes), -100 - n);
            }
        }
        for (int i = 1; i < 21; i++) {
            int from = i;
            set("secret from " + i + " on", x -> x.secret(0, 0, from, 21 - from), -100);
        }
        set("secret of no codes at the end", x -> x.secret(0, 0, 21, 0), -100);
        set("secret of a row without cells", x -> x.secret(2, 1, 0, 0), -100);
        set("secret of other numbers", x -> x.secret(1, 2, 0, 5), -100);
    }

    private static void answersRefused() {
        keptAnew("ofAnswer", x -> x.ofAnswer(0, 0), UNKNOWN);
        keptAnew("ofAnswer ahead of OUTSIDE", x -> x.ofAnswer(0, 2), UNKNOWN);
        keptAnew("move", x -> x.move(0, 0), UNKNOWN);
        keptAnew("move ahead of OUTSIDE", x -> x.move(0, 10), UNKNOWN);
        keptAnew("shown", x -> x.shown(0, 0), UNKNOWN);
        for (int a : beyond(3)) {
            kept("ofAnswer, UNKNOWN", x -> x.ofAnswer(a, 0), UNKNOWN);
            kept("ofAnswer, UNKNOWN ahead of OUTSIDE", x -> x.ofAnswer(a, 2), UNKNOWN);
            kept("move, UNKNOWN", x -> x.move(a, 0), UNKNOWN);
            kept("move, UNKNOWN ahead of OUTSIDE", x -> x.move(a, 10), UNKNOWN);
            kept("shown, UNKNOWN x", x -> x.shown(a, 0), UNKNOWN);
            kept("shown, UNKNOWN t", x -> x.shown(0, a), UNKNOWN);
            kept("shown, UNKNOWN both", x -> x.shown(a, a), UNKNOWN);
        }
        for (int what : beyond(1)) {
            kept("ofAnswer, OUTSIDE", x -> x.ofAnswer(3, what), OUTSIDE);
        }
        for (int v : beyond(9)) {
            kept("move, OUTSIDE", x -> x.move(3, v), OUTSIDE);
            kept("grow, OUTSIDE", x -> x.grow(v), OUTSIDE);
            keptAnew("grow, OUTSIDE ahead of STATE", x -> x.grow(v), OUTSIDE);
        }
        for (int v = 0; v < 10; v++) {
            int growth = v;
            keptAnew("grow, STATE", x -> x.grow(growth), STATE);
        }
    }

    // ---- 2

    private static void nightsRefused() {
        refused("nights of a new object", Ways::anew, x -> x.nights(0, 0, 0, 0, 0, 0), UNKNOWN, 0);
        for (int t : beyond(3)) {
            set("nights, UNKNOWN t", x -> x.nights(t, 1, 2, 0, 1, 0), UNKNOWN);
            set("nights, UNKNOWN t ahead of OUTSIDE", x -> x.nights(t, 1, 3, 0, 21, 3), UNKNOWN);
            set("nights, UNKNOWN t ahead of NULL", x -> x.nights(t, 3, 2, 0, 0, 0), UNKNOWN);
            set("nights, UNKNOWN t ahead of CAST", x -> x.nights(t, 1, 0, 0, 1, 0), UNKNOWN);
            set("nights, UNKNOWN t ahead of INDEX", x -> x.nights(t, 1, 2, -1, 1, 0), UNKNOWN);
        }
        for (int k : beyond(3)) {
            set("nights, UNKNOWN sheet", x -> x.nights(0, k, 2, 0, 1, 0), UNKNOWN);
            set("nights, UNKNOWN sheet ahead of lane", x -> x.nights(0, k, 3, 0, 1, 0), UNKNOWN);
            set("nights, UNKNOWN sheet ahead of n", x -> x.nights(0, k, 2, 0, -1, 0), UNKNOWN);
            set("nights, UNKNOWN sheet ahead of what", x -> x.nights(0, k, 2, 0, 1, 3), UNKNOWN);
            set("nights, UNKNOWN sheet ahead of INDEX", x -> x.nights(0, k, 2, 9, 1, 0), UNKNOWN);
        }
        for (int lane : beyond(2)) {
            set("nights, OUTSIDE lane", x -> x.nights(0, 1, lane, 0, 1, 0), OUTSIDE);
            set("nights, OUTSIDE lane ahead of NULL", x -> x.nights(0, 3, lane, 0, 1, 0), OUTSIDE);
            set("nights, OUTSIDE lane ahead of INDEX", x -> x.nights(0, 1, lane, -1, 1, 0), OUTSIDE);
            set("nights, OUTSIDE lane ahead of such cells", x -> x.nights(0, 1, lane, 4, 1, 0), OUTSIDE);
        }
        for (int n : beyond(20)) {
            set("nights, OUTSIDE n", x -> x.nights(0, 1, 2, 0, n, 0), OUTSIDE);
            set("nights, OUTSIDE n ahead of NULL", x -> x.nights(0, 3, 2, 0, n, 0), OUTSIDE);
            set("nights, OUTSIDE n ahead of CAST", x -> x.nights(0, 1, 1, 0, n, 0), OUTSIDE);
            set("nights, OUTSIDE n ahead of INDEX", x -> x.nights(0, 1, 2, -1, n, 0), OUTSIDE);
            // The row has 21 cells: it is not for want of cells.
            set("nights, OUTSIDE n of many cells", x -> x.nights(0, 0, 0, 0, n, 0), OUTSIDE);
        }
        for (int what : beyond(2)) {
            set("nights, OUTSIDE what", x -> x.nights(0, 1, 2, 0, 1, what), OUTSIDE);
            set("nights, OUTSIDE what ahead of NULL", x -> x.nights(0, 3, 2, 0, 1, what), OUTSIDE);
            set("nights, OUTSIDE what ahead of CAST", x -> x.nights(0, 1, 1, 0, 1, what), OUTSIDE);
            set("nights, OUTSIDE what ahead of INDEX", x -> x.nights(0, 1, 2, 0, 6, what), OUTSIDE);
            set("nights, OUTSIDE what ahead of such cells", x -> x.nights(0, 1, 2, 4, 1, what), OUTSIDE);
        }
    }

    private static void nightsFaulted() {
        for (int w = 0; w < 3; w++) {
            int what = w;
            faulted("nights, CAST", x -> x.nights(0, 1, 1, 0, 1, what), CAST);
            faulted("nights, CAST of a row without cells", x -> x.nights(0, 2, 2, 0, 0, what), CAST);
            faulted("nights, CAST ahead of INDEX", x -> x.nights(0, 1, 0, -1, 1, what), CAST);
            faulted("nights, CAST ahead of such cells", x -> x.nights(0, 1, 0, 4, 1, what), CAST);
            faulted("nights, nothing is no CAST", x -> x.nights(0, 3, what, 0, 0, what), NULL);
            faulted("nights, NULL ahead of INDEX", x -> x.nights(0, 3, 2, 1, 1, what), NULL);
            faulted("nights, INDEX ahead of such cells", x -> x.nights(0, 1, 2, 4, 2, what), INDEX);
            faulted("nights, INDEX of all and one more", x -> x.nights(0, 1, 2, 0, 6, what), INDEX);
            faulted("nights, INDEX of a row without cells", x -> x.nights(0, 2, 1, 0, 1, what), INDEX);
            for (int i : beyond(5)) {
                faulted("nights, INDEX, though none is taken", x -> x.nights(0, 1, 2, i, 0, what), INDEX);
                faulted("nights, INDEX of one", x -> x.nights(0, 1, 2, i, 1, what), INDEX);
                faulted("nights, INDEX of the most", x -> x.nights(0, 1, 2, i, 20, what), INDEX);
            }
            set("nights, a cell is no ANSWER", x -> x.nights(0, 1, 2, 4, 1, what), UNKNOWN);
            set("nights, the last cell is no ANSWER", x -> x.nights(2, 1, 2, 1, 4, what), UNKNOWN);
            set("nights, a cell behind BOUND is no ANSWER", x -> x.nights(0, 1, 2, 0, 5, what), UNKNOWN);
            set("nights, the first cell is no ANSWER", x -> x.nights(0, 0, 0, 0, 1, what), UNKNOWN);
        }
    }

    // ---- 3

    private static void setsRefused() {
        for (int set : new int[] {LEAST, -1, 0, 1, 15, 16, 64, MOST}) {
            keptAnew("worst, STATE", x -> x.worst(set), STATE);
            keptAnew("ask, STATE", x -> x.ask(set), STATE);
            keptAnew("months, STATE", x -> x.months(set), STATE);
            keptAnew("mean, STATE", x -> x.mean(set, 0), LOST);
            keptAnew("parts, UNKNOWN", x -> x.parts(0, set), UNKNOWN);
        }
        for (int set : new int[] {LEAST, LEAST + 1, -16, -1, 16, 17, 31, 32, 64, 1 << 30, MOST}) {
            kept("worst, OUTSIDE", x -> x.worst(set), OUTSIDE);
            kept("ask, OUTSIDE", x -> x.ask(set), OUTSIDE);
            kept("mean, OUTSIDE, upper", x -> x.mean(set, 0), LOST);
            kept("mean, OUTSIDE, lower", x -> x.mean(set, 1), LOST);
            for (int a = 0; a < 4; a++) {
                int asked = a;
                kept("parts, OUTSIDE", x -> x.parts(asked, set), OUTSIDE);
            }
            for (int a : beyond(3)) {
                kept("parts, UNKNOWN ahead of OUTSIDE", x -> x.parts(a, set), UNKNOWN);
            }
            kept("months, OUTSIDE", x -> x.months(set), OUTSIDE);
        }
        kept("months, OUTSIDE, a pillar too many", x -> x.months(8), OUTSIDE);
        kept("mean, OUTSIDE, the empty set's upper", x -> x.mean(0, 0), LOST);
        kept("mean, OUTSIDE, the empty set's lower", x -> x.mean(0, 1), LOST);
        for (int which : beyond(1)) {
            kept("mean, OUTSIDE, which", x -> x.mean(15, which), LOST);
            kept("mean, OUTSIDE, which, too", x -> x.mean(16, which), LOST);
        }
        for (int a : beyond(3)) {
            kept("parts, UNKNOWN", x -> x.parts(a, 15), UNKNOWN);
        }
        for (int m : beyond(99)) {
            kept("down, OUTSIDE", x -> x.down(m), OUTSIDE);
            keptAnew("down, STATE ahead of OUTSIDE", x -> x.down(m), STATE);
        }
        keptAnew("down, STATE", x -> x.down(0), STATE);
        keptAnew("down, STATE of the most", x -> x.down(99), STATE);
    }

    // ---- 4

    private static void readingRefused() {
        Ways.Way full = Ways::full;
        keptAnew("reading, UNKNOWN", x -> x.reading(0, 0), UNKNOWN);
        keptAnew("reading, UNKNOWN ahead of OUTSIDE", x -> x.reading(0, 11), UNKNOWN);
        refused("reading, FULL", full, x -> x.reading(3, -9), FULL, KEPT);
        refused("reading, FULL of 0", full, x -> x.reading(0, 0), FULL, KEPT);
        refused("reading, FULL of 10", full, x -> x.reading(0, 10), FULL, KEPT);
        for (int a : beyond(3)) {
            kept("reading, UNKNOWN", x -> x.reading(a, 2), UNKNOWN);
            kept("reading, UNKNOWN, BOUND", x -> x.reading(a, -9), UNKNOWN);
            refused("reading, UNKNOWN ahead of FULL", full, x -> x.reading(a, 2), UNKNOWN, KEPT);
            refused("reading, UNKNOWN ahead of both", full, x -> x.reading(a, 11), UNKNOWN, KEPT);
        }
        for (int v : new int[] {LEAST, -100, -10, -8, -2, -1, 11, 12, MOST}) {
            kept("reading, OUTSIDE", x -> x.reading(3, v), OUTSIDE);
            kept("reading, UNKNOWN ahead of OUTSIDE", x -> x.reading(4, v), UNKNOWN);
            refused("reading, OUTSIDE ahead of FULL", full, x -> x.reading(3, v), OUTSIDE, KEPT);
        }
    }

    private static void readingsRefused() {
        for (int k : beyond(3)) {
            kept("back, OUTSIDE", x -> x.back(k), OUTSIDE);
        }
        for (int k : beyond(8)) {
            refused("back, OUTSIDE of eight", Ways::full, x -> x.back(k), OUTSIDE, KEPT);
        }
        for (int k : beyond(0)) {
            keptAnew("back, OUTSIDE", x -> x.back(k), OUTSIDE);
            refused("back, OUTSIDE of none", Ways::unread, x -> x.back(k), OUTSIDE, KEPT);
        }
        keptAnew("left, STATE", x -> x.left(), STATE);
        keptAnew("kinds, UNKNOWN", x -> x.kinds(0), UNKNOWN);
        keptAnew("places, UNKNOWN", x -> x.places(0), UNKNOWN);
        for (int a : beyond(3)) {
            kept("kinds, UNKNOWN", x -> x.kinds(a), UNKNOWN);
            kept("places, UNKNOWN", x -> x.places(a), UNKNOWN);
        }
        for (int n : beyond(9)) {
            kept("odds, OUTSIDE n, upper", x -> x.odds(n, 0), LOST);
            kept("odds, OUTSIDE n, lower", x -> x.odds(n, 1), LOST);
            keptAnew("odds, STATE and OUTSIDE", x -> x.odds(n, 0), LOST);
        }
        for (int which : beyond(1)) {
            kept("odds, OUTSIDE which", x -> x.odds(1, which), LOST);
            kept("odds, OUTSIDE both", x -> x.odds(10, which), LOST);
        }
        for (int n = 0; n < 10; n++) {
            int nights = n;
            keptAnew("odds, STATE, upper", x -> x.odds(nights, 0), LOST);
            keptAnew("odds, STATE, lower", x -> x.odds(nights, 1), LOST);
        }
    }

    // ---- 5

    private static void sheetRefused() {
        for (int k : beyond(3)) {
            set("sheet, UNKNOWN", x -> x.sheet(k, 0, 1), UNKNOWN);
            set("sheet, UNKNOWN ahead of OUTSIDE lane", x -> x.sheet(k, 3, 1), UNKNOWN);
            set("sheet, UNKNOWN ahead of OUTSIDE n", x -> x.sheet(k, 0, 61), UNKNOWN);
            set("sheet, UNKNOWN ahead of SIZE", x -> x.sheet(k, 0, -1), UNKNOWN);
            kept("lose, UNKNOWN", x -> x.lose(k), UNKNOWN);
            keptAnew("lose, UNKNOWN", x -> x.lose(k), UNKNOWN);
        }
        for (int lane : beyond(2)) {
            set("sheet, OUTSIDE lane", x -> x.sheet(0, lane, 1), OUTSIDE);
            set("sheet, OUTSIDE lane, of nothing", x -> x.sheet(3, lane, 1), OUTSIDE);
            set("sheet, OUTSIDE lane and n", x -> x.sheet(0, lane, 61), OUTSIDE);
            set("sheet, OUTSIDE lane ahead of SIZE", x -> x.sheet(0, lane, -1), OUTSIDE);
        }
        for (int k = 0; k < 4; k++) {
            for (int lane = 0; lane < 3; lane++) {
                int sheet = k;
                int of = lane;
                for (int n : new int[] {61, 62, MOST}) {
                    set("sheet, OUTSIDE n", x -> x.sheet(sheet, of, n), OUTSIDE);
                }
                for (int n : new int[] {-1, -2, LEAST}) {
                    faulted("sheet, SIZE", x -> x.sheet(sheet, of, n), SIZE);
                }
            }
        }
        refused("sheet, SIZE of a new object", Ways::anew, x -> x.sheet(0, 0, -1), -14, SIZE);
    }

    private static void putRefused() {
        int[] ends = {21, 5, 0};
        for (int i : new int[] {LEAST, -1, 0, 60, MOST}) {
            for (int k : beyond(3)) {
                set("put, UNKNOWN ahead of INDEX", x -> x.put(k, i, 1), UNKNOWN);
            }
            faulted("put, NULL ahead of INDEX", x -> x.put(3, i, 1), NULL);
            refused("put, NULL of a new object", Ways::anew, x -> x.put(0, i, 1), -11, NULL);
        }
        for (int k = 0; k < 3; k++) {
            int sheet = k;
            for (int i : beyond(ends[k] - 1)) {
                faulted("put, INDEX", x -> x.put(sheet, i, 1), INDEX);
            }
            faulted("put, INDEX of the row's most", x -> x.put(sheet, 59, 1), INDEX);
        }
    }

    private static void cellRefused() {
        int[] lanes = {0, 2, 1};
        int[] ends = {21, 5, 0};
        for (int k : beyond(3)) {
            set("cell, UNKNOWN", x -> x.cell(k, 0, 0), LOST);
            set("cell, UNKNOWN and OUTSIDE", x -> x.cell(k, 0, 3), LOST);
            set("cell, UNKNOWN ahead of INDEX", x -> x.cell(k, -1, 0), LOST);
        }
        for (int lane : beyond(2)) {
            set("cell, OUTSIDE", x -> x.cell(0, 0, lane), LOST);
            set("cell, OUTSIDE ahead of NULL", x -> x.cell(3, 0, lane), LOST);
            set("cell, OUTSIDE ahead of INDEX", x -> x.cell(0, 21, lane), LOST);
        }
        for (int k = 0; k < 3; k++) {
            int sheet = k;
            int lane = lanes[k];
            for (int i : beyond(ends[k] - 1)) {
                lost("cell, INDEX", x -> x.cell(sheet, i, lane), INDEX);
                lost("cell, CAST ahead of INDEX", x -> x.cell(sheet, i, (lane + 1) % 3), CAST);
                lost("cell, CAST ahead of INDEX, too", x -> x.cell(sheet, i, (lane + 2) % 3), CAST);
            }
            lost("cell, CAST", x -> x.cell(sheet, 0, (lane + 1) % 3), CAST);
            lost("cell, CAST, too", x -> x.cell(sheet, 0, (lane + 2) % 3), CAST);
            lost("cell, INDEX of the row's most", x -> x.cell(sheet, 59, lane), INDEX);
            lost("cell, nothing is no CAST", x -> x.cell(3, 0, lane), NULL);
            lost("cell, NULL ahead of INDEX", x -> x.cell(3, -1, lane), NULL);
        }
        refused("cell, NULL of a new object", Ways::anew, x -> x.cell(0, 0, 0), LOST, NULL);
    }

    private static void lost(String call, Ways.Call on, int fault) {
        refused(call, Ways::ready, on, LOST, fault);
    }

    private static void copyRefused() {
        for (int k : beyond(3)) {
            set("copy, UNKNOWN", x -> x.copy(k, 0, 0, 0, 1), UNKNOWN);
            set("copy, UNKNOWN other", x -> x.copy(0, 0, k, 0, 1), UNKNOWN);
            set("copy, UNKNOWN both", x -> x.copy(k, 0, k, 0, 1), UNKNOWN);
            set("copy, UNKNOWN ahead of the other's NULL", x -> x.copy(k, 0, 3, 0, 1), UNKNOWN);
            set("copy, UNKNOWN other ahead of NULL", x -> x.copy(3, 0, k, 0, 1), UNKNOWN);
            set("copy, UNKNOWN ahead of INDEX", x -> x.copy(0, -1, k, -1, -1), UNKNOWN);
        }
        faulted("copy, NULL", x -> x.copy(3, 0, 0, 0, 0), NULL);
        faulted("copy, NULL of the other", x -> x.copy(0, 0, 3, 0, 0), NULL);
        faulted("copy, NULL of both", x -> x.copy(3, 0, 3, 0, 0), NULL);
        refused("copy, NULL of a new object", Ways::anew, x -> x.copy(0, 0, 1, 0, 0), -11, NULL);
        for (int bad : new int[] {LEAST, -1, 22, MOST}) {
            faulted("copy, NULL ahead of INDEX i", x -> x.copy(3, bad, 0, 0, 0), NULL);
            faulted("copy, NULL ahead of INDEX j", x -> x.copy(0, 0, 3, bad, 0), NULL);
            faulted("copy, NULL ahead of INDEX n", x -> x.copy(0, 0, 3, 0, bad), NULL);
            faulted("copy, CAST ahead of INDEX i", x -> x.copy(0, bad, 1, 0, 0), CAST);
            faulted("copy, CAST ahead of INDEX j", x -> x.copy(0, 0, 1, bad, 0), CAST);
            faulted("copy, CAST ahead of INDEX n", x -> x.copy(0, 0, 1, 0, bad), CAST);
        }
        for (int k = 0; k < 3; k++) {
            int one = k;
            faulted("copy, CAST", x -> x.copy(one, 0, (one + 1) % 3, 0, 0), CAST);
            faulted("copy, CAST the other way", x -> x.copy((one + 1) % 3, 0, one, 0, 0), CAST);
        }
    }

    private static LieNights twoRows() {
        LieNights x = Ways.ready();
        Bench.row(x, 2, 0, 7, 8, 9);
        return x;
    }

    private static void copyBeyond() {
        Ways.Way way = RefusalsTest::twoRows;
        for (int bad : new int[] {LEAST, -1, MOST}) {
            for (int n : new int[] {0, 1, 3}) {
                beyond(way, "i", bad, 0, n);
                beyond(way, "j", 0, bad, n);
                beyond(way, "i and j", bad, bad, n);
            }
            beyond(way, "n", 0, 0, bad);
            beyond(way, "n at the ends", 21, 3, bad);
            beyond(way, "all", bad, bad, bad);
        }
        beyond(way, "i, though none is taken", 22, 0, 0);
        beyond(way, "j, though none is taken", 0, 4, 0);
        beyond(way, "i with n", 21, 0, 1);
        beyond(way, "i with n, too", 19, 0, 3);
        beyond(way, "j with n", 0, 3, 1);
        beyond(way, "j with n, too", 0, 1, 3);
        beyond(way, "n of the shorter row", 0, 0, 4);
        beyond(way, "i + n wraps", 1, 0, MOST);
        beyond(way, "j + n wraps", 0, 1, MOST);
        refused("copy, INDEX in one row", way, x -> x.copy(2, 1, 2, 0, 3), -13, INDEX);
        refused("copy, INDEX in one row, too", way, x -> x.copy(2, 0, 2, 1, 3), -13, INDEX);
        refused("copy, INDEX of the shorter first", way, x -> x.copy(2, 0, 0, 0, 4), -13, INDEX);
    }

    private static void beyond(Ways.Way way, String which, int i, int j, int n) {
        refused("copy, INDEX " + which, way, x -> x.copy(0, i, 2, j, n), -13, INDEX);
    }

    private static void tellingRefused() {
        keptAnew("tell, UNKNOWN", x -> x.tell(0), UNKNOWN);
        keptAnew("whisper, UNKNOWN", x -> x.whisper(0), UNKNOWN);
        refused("as of a new object", Ways::anew, x -> x.as(0, 0), UNKNOWN, 0);
        refused("as of a new object ahead of OUTSIDE", Ways::anew, x -> x.as(0, 3), UNKNOWN, 0);
        for (int a : beyond(3)) {
            kept("tell, UNKNOWN", x -> x.tell(a), UNKNOWN);
            kept("whisper, UNKNOWN", x -> x.whisper(a), UNKNOWN);
            set("as, UNKNOWN", x -> x.as(a, 0), UNKNOWN);
            set("as, UNKNOWN ahead of OUTSIDE", x -> x.as(a, 3), UNKNOWN);
            set("as, UNKNOWN ahead of CAST", x -> x.as(a, 2), UNKNOWN);
        }
        for (int kind : beyond(2)) {
            for (int a = 0; a < 4; a++) {
                int answer = a;
                set("as, OUTSIDE", x -> x.as(answer, kind), OUTSIDE);
            }
        }
        faulted("as, CAST: a PLAIN is no SLY", x -> x.as(0, 1), CAST);
        faulted("as, CAST: a PLAIN is no VAIN", x -> x.as(0, 2), CAST);
        faulted("as, CAST: a SLY is no VAIN", x -> x.as(1, 2), CAST);
        for (int what : beyond(3)) {
            kept("many, OUTSIDE", x -> x.many(what), OUTSIDE);
            keptAnew("many, OUTSIDE", x -> x.many(what), OUTSIDE);
        }
    }

    public static void main(String[] args) {
        secretRefused();
        secretFaulted();
        secretWithAFirstFault();
        answersRefused();
        nightsRefused();
        nightsFaulted();
        setsRefused();
        readingRefused();
        readingsRefused();
        sheetRefused();
        putRefused();
        cellRefused();
        copyRefused();
        copyBeyond();
        tellingRefused();
        Bench.end("RefusalsTest");
    }
}
