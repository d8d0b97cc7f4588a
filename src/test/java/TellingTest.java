/** Promises 25 to 28 and 30: tell, whisper, as, trace, many. */
public final class TellingTest {
    private TellingTest() {
    }

    private static int traced(int from, int... numbers) {
        int trace = from;
        for (int number : numbers) {
            trace = 31 * trace + number;
        }
        return trace;
    }

    private static void tell() {
        LieNights x = Bench.told("a,p7,s5,v9;1/1");
        Bench.due("a PLAIN", x.tell(0), 7);
        Bench.due("its trace", x.trace(), 1);
        Bench.due("a SLY", x.tell(1), 105);
        Bench.due("its trace", x.trace(), traced(1, 2, 1));
        Bench.due("a VAIN", x.tell(2), 118);
        Bench.due("its trace", x.trace(), traced(1, 2, 1, 3, 2, 1, 1));
        Bench.due("UNKNOWN", x.tell(3), -1);
        Bench.due("UNKNOWN below", x.tell(-1), -1);
        Bench.due("a refusal leaves no trace", x.trace(), traced(1, 2, 1, 3, 2, 1, 1));
        x.move(2, 0);
        Bench.due("by the place that is", x.tell(2), 100);
    }

    private static void whisper() {
        LieNights x = Bench.told("a,p7,s5,v9,s1;1/1");
        Bench.due("a PLAIN", x.whisper(0), 0);
        Bench.due("its trace", x.trace(), 4);
        Bench.due("a SLY", x.whisper(1), 1);
        Bench.due("its trace", x.trace(), traced(4, 4));
        Bench.due("a VAIN", x.whisper(2), 40);
        Bench.due("its trace", x.trace(), traced(4, 4, 5));
        Bench.due("by its number", x.whisper(3), 3);
        Bench.due("UNKNOWN", x.whisper(4), -1);
        Bench.due("UNKNOWN below", x.whisper(-1), -1);
        Bench.due("a refusal leaves no trace", x.trace(), traced(4, 4, 5, 4));
    }

    private static void traceWraps() {
        LieNights x = Bench.told("a,p7,s5,v9;1/1");
        int want = 0;
        for (int times = 0; times < 40; times++) {
            x.tell(2);
            want = traced(want, 3, 2, 1, 1);
            Bench.due("trace", x.trace(), want);
        }
    }

    private static void as() {
        LieNights x = Bench.told("a,p7,s5,v9;1/1");
        int[][] want = {{1, -12, -12}, {1, 1, -12}, {1, 1, 1}};
        for (int a = 0; a < 3; a++) {
            for (int kind = 0; kind < 3; kind++) {
                Bench.due(a + " as " + kind, x.as(a, kind), want[a][kind]);
                Bench.due("its fault", x.fault(), want[a][kind] == 1 ? 0 : 2);
            }
        }
        x.as(0, 1);
        Bench.due("UNKNOWN", x.as(3, 3), -1);
        Bench.due("its fault", x.fault(), 0);
        Bench.due("UNKNOWN below", x.as(-1, 0), -1);
        x.as(0, 1);
        Bench.due("OUTSIDE", x.as(0, 3), -2);
        Bench.due("its fault", x.fault(), 0);
        Bench.due("OUTSIDE below", x.as(0, -1), -2);
        Bench.due("no trace of it", x.trace(), 0);
    }

    private static void withoutASecret() {
        LieNights x = new LieNights();
        Bench.due("tell", x.tell(0), -1);
        Bench.due("whisper", x.whisper(0), -1);
        Bench.due("as", x.as(0, 0), -1);
    }

    private static void many() {
        LieNights x = new LieNights();
        Bench.due("OUTSIDE", x.many(4), -2);
        Bench.due("OUTSIDE below", x.many(-1), -2);
        Bench.text(x, "a,p7,s5,v9,p1;8/1/2/3");
        x.reading(0, 1);
        x.reading(0, 1);
        int[] want = {4, 3, 8, 2, -2};
        for (int what = 0; what < want.length; what++) {
            Bench.due("many " + what, x.many(what), want[what]);
        }
    }

    public static void main(String[] args) {
        tell();
        whisper();
        traceWraps();
        as();
        withoutASecret();
        many();
        Bench.end("TellingTest");
    }
}
