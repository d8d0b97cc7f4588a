import java.util.Random;

/** Runs of calls by chance, each answered by the class and by the model; the seeds are fixed. */
public final class ModelTest {
    private static final int SWEEPS = 300, RUNS = 1500, CALLS = 512;
    private static final int[] EDGES = {Integer.MIN_VALUE, Integer.MAX_VALUE, -2147483640, 2147483600, -9, -1, 60, 61, 64, 255, 256, 65536};

    private static Random chance;

    private ModelTest() {
    }

    private static int upTo(int n) {
        return chance.nextInt(n + 1);
    }

    /** Mostly a number that is taken, now and then one beside it or far off. */
    private static int about(int most) {
        int which = upTo(29);
        return which == 0 ? EDGES[upTo(EDGES.length - 1)] : which == 1 ? -1 : which == 2 ? most + 1 : upTo(most);
    }

    private static String text() {
        StringBuilder text = new StringBuilder("a");
        int answers = upTo(19) == 0 ? upTo(8) : 2 + upTo(4);
        int near = upTo(2) == 0 ? upTo(3) : 9;
        for (int x = 0; x < answers; x++) text.append(',').append("psv".charAt(upTo(2))).append(upTo(near));
        text.append(';').append(upTo(9));
        int pillars = upTo(19) == 0 ? upTo(7) : 1 + upTo(4);
        for (int p = 0; p < pillars; p++) text.append('/').append(1 + upTo(8));
        int spoilt = upTo(5);
        if (spoilt == 0) text.setCharAt(upTo(text.length() - 1), "apsv,;/0123456789x".charAt(upTo(17)));
        if (spoilt == 1) text.setLength(upTo(text.length()));
        if (spoilt == 2 && upTo(2) == 0) text.append(",;/1pa".charAt(upTo(5)));
        return text.toString();
    }

    private static void same(String call, long got, long want) {
        Bench.due(call, got, want);
    }

    private static void tellText(LieNights x, Model m) {
        String text = text();
        int k = upTo(3);
        int lane = upTo(2);
        int from = upTo(2);
        int behind = upTo(1);
        int length = from + text.length() + behind;
        same("sheet", x.sheet(k, lane, length), m.sheet(k, lane, length));
        for (int i = 0; i < text.length() && i + from < 60; i++) {
            same("put", x.put(k, i + from, text.charAt(i)), m.put(k, i + from, text.charAt(i)));
        }
        int n = text.length();
        same("secret " + text, x.secret(k, lane, from, n), m.secret(k, lane, from, n));
    }

    private static void tellNights(LieNights x, Model m) {
        int n = upTo(6);
        int lane = upTo(2);
        same("sheet", x.sheet(3, lane, n), m.sheet(3, lane, n));
        for (int i = 0; i < n; i++) {
            int v = upTo(40) == 0 ? 7 : upTo(Math.max(0, m.many(0) - 1));
            same("put", x.put(3, i, v), m.put(3, i, v));
        }
        for (int what = 0; what < 3; what++) {
            int t = upTo(5);
            same("nights", x.nights(t, 3, lane, 0, n, what), m.nights(t, 3, lane, 0, n, what));
        }
    }

    private static void readTruly(LieNights x, Model m) {
        int a = upTo(5);
        int t = upTo(5);
        int v = m.shown(a, t);
        same("reading", x.reading(a, v), m.reading(a, v));
    }

    private static void callOne(LieNights x, Model m, int which) {
        int a = about(5);
        int k = about(3);
        int lane = about(2);
        int i = about(20);
        int n = about(20);
        int set = about(63);
        int bit = about(1);
        switch (which) {
            case 0: same("secret", x.secret(k, lane, i, n), m.secret(k, lane, i, n)); break;
            case 1: same("ofAnswer", x.ofAnswer(a, bit), m.ofAnswer(a, bit)); break;
            case 2: same("move", x.move(a, i / 2), m.move(a, i / 2)); break;
            case 3: same("grow", x.grow(i / 2), m.grow(i / 2)); break;
            case 4: same("shown", x.shown(a, k), m.shown(a, k)); break;
            case 5: same("nights", x.nights(a, k, lane, i, n, lane), m.nights(a, k, lane, i, n, lane)); break;
            case 6: same("worst", x.worst(set), m.worst(set)); break;
            case 7: same("ask", x.ask(set), m.ask(set)); break;
            case 8: same("mean", x.mean(set, bit), m.mean(set, bit)); break;
            case 9: same("parts", x.parts(a, set), m.parts(a, set)); break;
            case 10: same("months", x.months(set / 2), m.months(set / 2)); break;
            case 11: same("down", x.down(i), m.down(i)); break;
            case 12: same("reading", x.reading(a, i / 2), m.reading(a, i / 2)); break;
            case 13: same("back", x.back(k), m.back(k)); break;
            case 14: same("left", x.left(), m.left()); break;
            case 15: same("kinds", x.kinds(a), m.kinds(a)); break;
            case 16: same("places", x.places(a), m.places(a)); break;
            case 17: same("odds", x.odds(i / 2, bit), m.odds(i / 2, bit)); break;
            case 18: same("sheet", x.sheet(k, lane, i), m.sheet(k, lane, i)); break;
            case 19: same("lose", x.lose(k), m.lose(k)); break;
            case 20: putAnything(x, m, k, i); break;
            case 21: same("cell", x.cell(k, i, lane), m.cell(k, i, lane)); break;
            case 22: copyAnything(x, m, k, i); break;
            case 23: same("tell", x.tell(a), m.tell(a)); break;
            case 24: same("whisper", x.whisper(a), m.whisper(a)); break;
            case 25: same("as", x.as(a, lane), m.as(a, lane)); break;
            case 26: same("trace", x.trace(), m.trace()); break;
            case 27: same("many", x.many(k), m.many(k)); break;
            case 28: tellText(x, m); break;
            case 29: tellNights(x, m); break;
            default: readTruly(x, m); break;
        }
        same("fault behind " + which, x.fault(), m.fault());
    }

    private static void putAnything(LieNights x, Model m, int k, int i) {
        int v = chance.nextInt();
        same("put", x.put(k, i, v), m.put(k, i, v));
    }

    private static void copyAnything(LieNights x, Model m, int k, int i) {
        int other = about(3);
        int j = about(10);
        int n = about(12);
        same("copy", x.copy(k, i, other, j, n), m.copy(k, i, other, j, n));
    }

    private static void planEverySet(int seed) {
        chance = new Random(seed);
        LieNights x = new LieNights();
        Model m = new Model();
        tellText(x, m);
        for (int set = 0; set < 64; set++) {
            same("worst", x.worst(set), m.worst(set));
            same("ask", x.ask(set), m.ask(set));
            same("mean's upper number", x.mean(set, 0), m.mean(set, 0));
            same("mean's lower number", x.mean(set, 1), m.mean(set, 1));
            same("parts", x.parts(set % 6, set), m.parts(set % 6, set));
        }
        for (int n = 0; n < 10; n++) {
            same("odds' upper number", x.odds(n, 0), m.odds(n, 0));
            same("odds' lower number", x.odds(n, 1), m.odds(n, 1));
        }
    }

    public static void main(String[] args) {
        for (int seed = 0; seed < SWEEPS; seed++) {
            planEverySet(-seed);
        }
        for (int run = 0; run < RUNS; run++) {
            chance = new Random(run);
            LieNights x = new LieNights();
            Model m = new Model();
            if (run % 5 != 0) tellText(x, m);
            // A call of callOne is at most some sixty calls of the class; the count stays below its 512.
            for (int calls = 70; calls < CALLS - 70; ) {
                int which = upTo(32);
                callOne(x, m, which);
                calls += which == 28 ? 65 : which == 29 ? 12 : 2;
            }
        }
        Bench.end("ModelTest");
    }
}
