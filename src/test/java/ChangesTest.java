/** What each call changes that is not refused: what the document says, and nothing else of all that can be seen. */
public final class ChangesTest {
    private static final int NONE = -9;
    // A call that names no FAULTS leaves what fault() tells.
    private static final int KEPT = -1;
    private static final String END_1 = "end-1-0 end-1-1 end-1-2";
    // What is seen of a reading hangs on places, too.
    private static final String BY_READINGS = "(left|places)-\\S+ ?";

    private ChangesTest() {
    }

    private static void changes(String call, Ways.Way way, Ways.Call on, long want, int fault, String changed) {
        LieNights x = way.made();
        int ahead = Ways.leaveAnotherFault(x, 0);
        Bench.due(call, on.on(x), want);
        Bench.due("fault() behind " + call, x.fault(), fault == KEPT ? ahead : fault);
        Bench.due("what " + call + " changes", Seen.of(x).unlike(Seen.of(way.made())), changed);
    }

    private static void tells(String call, Ways.Call on, long want) {
        changes(call, Ways::full, on, want, KEPT, "");
        changes(call + " of three readings", Ways::ready, on, want, KEPT, "");
    }

    private static void tellsAndNamesFaults(String call, Ways.Call on, long want) {
        changes(call, Ways::full, on, want, 0, "");
        changes(call + " of three readings", Ways::ready, on, want, 0, "");
    }

    private static void callsThatOnlyTell() {
        tells("ofAnswer, kind", x -> x.ofAnswer(2, 0), 2);
        tells("ofAnswer, place", x -> x.ofAnswer(2, 1), 9);
        tells("shown", x -> x.shown(1, 2), 5);
        tells("shown, BOUND", x -> x.shown(1, 1), NONE);
        tellsAndNamesFaults("nights, may", x -> x.nights(1, 1, 2, 1, 2, 0), 2);
        tellsAndNamesFaults("nights, bound", x -> x.nights(1, 1, 2, 0, 4, 1), 3);
        tellsAndNamesFaults("nights, not bound", x -> x.nights(1, 1, 2, 0, 3, 1), NONE);
        tellsAndNamesFaults("nights, last", x -> x.nights(1, 1, 2, 0, 2, 2), 1);
        tellsAndNamesFaults("nights, no last", x -> x.nights(1, 1, 2, 0, 0, 2), NONE);
        tells("worst", x -> x.worst(15), 2);
        tells("worst of the empty set", x -> x.worst(0), 0);
        tells("ask", x -> x.ask(15), 0);
        tells("ask of one", x -> x.ask(8), 3);
        tells("ask of the empty set", x -> x.ask(0), NONE);
        tells("mean, upper", x -> x.mean(3, 0), 3);
        tells("mean, lower", x -> x.mean(3, 1), 2);
        tells("parts", x -> x.parts(1, 3), 2);
        tells("parts of the empty set", x -> x.parts(1, 0), 0);
        tells("months", x -> x.months(7), 5);
        tells("months of none", x -> x.months(0), 0);
        tells("down", x -> x.down(99), 1);
        tells("down, NONE", x -> x.down(0), NONE);
        tells("left", x -> x.left(), 8);
        tells("kinds", x -> x.kinds(0), 1);
        tells("kinds of another", x -> x.kinds(3), 7);
        tells("places", x -> x.places(3), 1 << 4);
        tells("places of another", x -> x.places(1), 1 << 3 | 1 << 5);
        tells("odds, upper", x -> x.odds(1, 0), 1);
        tells("odds, lower", x -> x.odds(1, 1), 4);
        tellsAndNamesFaults("cell", x -> x.cell(0, 0, 0), 'a');
        tellsAndNamesFaults("as", x -> x.as(2, 1), 1);
        tells("fault", x -> x.fault(), 4);
        tells("many answers", x -> x.many(0), 4);
        tells("many pillars", x -> x.many(1), 3);
        tells("the growth", x -> x.many(2), 3);
        tells("trace", x -> x.trace(), ((3 * 31 + 2) * 31 + 1) * 31 + 1);
        tells("lose of nothing", x -> x.lose(3), 0);
        tellsAndNamesFaults("copy of none", x -> x.copy(1, 2, 1, 3, 0), 0);
    }

    private static LieNights withoutGrowth() {
        LieNights x = Ways.full();
        x.grow(0);
        return x;
    }

    private static void callsWithoutGrowth() {
        Ways.Way way = ChangesTest::withoutGrowth;
        changes("months, NONE", way, x -> x.months(1), NONE, KEPT, "");
        changes("months of none", way, x -> x.months(0), 0, KEPT, "");
        changes("down, NONE", way, x -> x.down(99), NONE, KEPT, "");
    }

    /** The calls that Seen itself begins with, looked at without it. */
    private static void callsThatSeenMakes() {
        LieNights x = Ways.full();
        Bench.due("left ahead of them", x.left(), 8);
        int trace = x.trace();
        for (int what = -1; what < 5; what++) {
            x.many(what);
            Bench.due("trace once more", x.trace(), trace);
            Bench.due("left behind them", x.left(), 8);
            Bench.due("readings behind them", x.many(3), 8);
            Bench.due("place behind them", x.ofAnswer(0, 1), 2);
            Bench.due("kind behind them", x.ofAnswer(1, 0), 1);
            Bench.due("growth behind them", x.many(2), 3);
            Bench.due("a cell behind them", x.cell(1, 1, 2), 3);
        }
    }

    private static void callsThatLeaveATrace() {
        for (Ways.Way way : new Ways.Way[] {Ways::ready, Ways::full}) {
            changes("tell of a PLAIN", way, x -> x.tell(3), 4, KEPT, "trace");
            changes("tell of a SLY", way, x -> x.tell(1), 105, KEPT, "trace");
            changes("tell of a VAIN", way, x -> x.tell(2), 118, KEPT, "trace");
            changes("whisper of a PLAIN", way, x -> x.whisper(3), 3, KEPT, "trace");
            changes("whisper of a SLY", way, x -> x.whisper(1), 1, KEPT, "trace");
            changes("whisper of a VAIN", way, x -> x.whisper(2), 40, KEPT, "trace");
        }
    }

    private static void readings(String call, Ways.Way way, Ways.Call on, long want, String changed) {
        LieNights x = way.made();
        int ahead = Ways.leaveAnotherFault(x, 0);
        Bench.due(call, on.on(x), want);
        Bench.due("fault() behind " + call, x.fault(), ahead);
        String unlike = Seen.of(x).unlike(Seen.of(way.made()));
        Bench.due("what " + call + " changes but what was read", unlike.replaceAll(BY_READINGS, "").strip(), changed);
    }

    private static void callsOfReadings() {
        readings("reading", Ways::ready, x -> x.reading(3, NONE), 3, "readings");
        readings("reading, the first", Ways::unread, x -> x.reading(0, 10), 0, "readings");
        readings("back", Ways::full, x -> x.back(1), 7, "readings");
        readings("back of all", Ways::full, x -> x.back(8), 0, "readings");
        readings("back of none", Ways::full, x -> x.back(0), 8, "");
        readings("move", Ways::ready, x -> x.move(3, 5), 4, "place-3");
        readings("move", Ways::full, x -> x.move(0, 0), 2, "place-0");
        readings("grow", Ways::full, x -> x.grow(0), 3, "growth");
        LieNights x = Ways.full();
        x.back(5);
        Bench.due("back to what was ahead", Seen.of(x).unlike(Seen.of(Ways.ready())), "");
    }

    private static void callsOfSheets() {
        for (Ways.Way way : new Ways.Way[] {Ways::ready, Ways::full}) {
            changes("sheet", way, x -> x.sheet(3, 1, 2), 1, 0, "cell-3-0 cell-3-1 end-3-0 end-3-1 end-3-2");
            changes("sheet of a shorter row", way, x -> x.sheet(1, 2, 1), 1, 0, "cell-1-1 cell-1-2 cell-1-3 cell-1-4 end-1-2");
            changes("put", way, x -> x.put(0, 20, 300), 1, 0, "cell-0-20");
            changes("lose", way, x -> x.lose(2), 1, KEPT, "end-2-0 end-2-1 end-2-2");
            changes("lose of a row", way, x -> x.lose(1), 1, KEPT, "cell-1-0 cell-1-1 cell-1-2 cell-1-3 cell-1-4 " + END_1);
            changes("copy", way, x -> x.copy(0, 2, 0, 20, 1), 1, 0, "cell-0-20");
            changes("copy of two", way, x -> x.copy(1, 1, 1, 2, 2), 2, 0, "cell-1-2 cell-1-3");
        }
    }

    /** A taken text is told in SentencesTest as well; here the trace and the sheets are what is looked at. */
    private static void callOfASecret() {
        LieNights x = Ways.full();
        Bench.due("secret", x.secret(0, 0, 0, 19), 4);
        String unlike = Seen.of(x).unlike(Seen.of(Ways.full()));
        Bench.due("one pillar less, no readings", unlike.replaceAll(BY_READINGS, ""), "pillars readings weight-2");
    }

    public static void main(String[] args) {
        callsThatOnlyTell();
        callsWithoutGrowth();
        callsThatSeenMakes();
        callsThatLeaveATrace();
        callsOfReadings();
        callsOfSheets();
        callOfASecret();
        Bench.end("ChangesTest");
    }
}
