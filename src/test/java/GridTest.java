/** Each call by all its edge numbers together, of four objects that went unlike ways, as the model answers it. */
public final class GridTest {
    private static final int LEAST = Integer.MIN_VALUE, MOST = Integer.MAX_VALUE;
    private static final int MOST_CALLS = 300;
    private static final String[] TEXTS = {"", "a,v0,s0;0/1", Ways.TEXT, "a,p0,s9,v9,p5,s4,v0;9/1/9/5/4/6"};
    private static final int[] SHEETS = {LEAST, -1, 0, 1, 2, 3, 4, MOST};
    private static final int[] LANES = {LEAST, -1, 0, 1, 2, 3, MOST};
    private static final int[] ANSWERS = {LEAST, -1, 0, 1, 2, 3, 4, 5, 6, MOST};
    private static final int[] SETS = {LEAST, -1, 0, 1, 2, 3, 4, 7, 8, 15, 16, 31, 32, 63, 64, MOST};
    private static final int[] VALUES = {LEAST, -10, -9, -8, -1, 0, 1, 4, 5, 8, 9, 10, 11, MOST};
    private static final int[] CELLS = {LEAST, -1, 0, 1, 2, 20, 21, 22, 59, 60, 61, MOST};
    private static final int[] FLAGS = {LEAST, -1, 0, 1, 2, 3, 4, MOST};

    private static int way;
    private static LieNights x;
    private static Model m;
    private static int calls;

    private GridTest() {
    }

    /** Sheet 0 has the text as bytes, 1 22 shorts, 2 a row of ints without cells, 3 nothing. */
    private static void again() {
        x = new LieNights();
        m = new Model();
        String text = TEXTS[way];
        x.sheet(0, 0, text.length());
        m.sheet(0, 0, text.length());
        for (int c = 0; c < text.length(); c++) {
            x.put(0, c, text.charAt(c));
            m.put(0, c, text.charAt(c));
        }
        x.secret(0, 0, 0, text.length());
        m.secret(0, 0, 0, text.length());
        x.sheet(1, 1, 22);
        m.sheet(1, 1, 22);
        for (int c = 0; c < 22; c++) {
            x.put(1, c, c * 7 % 22 / 3);
            m.put(1, c, c * 7 % 22 / 3);
        }
        x.sheet(2, 2, 0);
        m.sheet(2, 2, 0);
        for (int r = 0; r < 3 * way; r++) {
            x.reading(r % 2, r % 3);
            m.reading(r % 2, r % 3);
        }
        calls = 100;
    }

    private static void same(String call, long got, long want) {
        Bench.due(call, got, want);
        Bench.due("fault() behind " + call, x.fault(), m.fault());
        calls += 2;
        if (calls > MOST_CALLS) {
            again();
        }
    }

    /** Of a call that may change the object: the next one has an object that is as it was. */
    private static void sameThenAgain(String call, long got, long want) {
        same(call, got, want);
        if (got >= 0) {
            same("trace behind " + call, x.trace(), m.trace());
            same("left behind " + call, x.left(), m.left());
            same("readings behind " + call, x.many(3), m.many(3));
            again();
        }
    }

    private static void byAnswers() {
        for (int a : ANSWERS) {
            same("kinds", x.kinds(a), m.kinds(a));
            same("places", x.places(a), m.places(a));
            sameThenAgain("tell", x.tell(a), m.tell(a));
            sameThenAgain("whisper", x.whisper(a), m.whisper(a));
            for (int t : ANSWERS) same("shown", x.shown(a, t), m.shown(a, t));
            for (int what : FLAGS) same("ofAnswer", x.ofAnswer(a, what), m.ofAnswer(a, what));
            for (int kind : FLAGS) same("as", x.as(a, kind), m.as(a, kind));
            for (int set : SETS) same("parts", x.parts(a, set), m.parts(a, set));
            for (int v : VALUES) sameThenAgain("move", x.move(a, v), m.move(a, v));
            for (int v : VALUES) sameThenAgain("reading", x.reading(a, v), m.reading(a, v));
        }
    }

    private static void bySets() {
        for (int set : SETS) {
            same("worst", x.worst(set), m.worst(set));
            same("ask", x.ask(set), m.ask(set));
            same("months", x.months(set), m.months(set));
            for (int which : FLAGS) same("mean", x.mean(set, which), m.mean(set, which));
        }
    }

    private static void byValues() {
        for (int v : VALUES) {
            sameThenAgain("grow", x.grow(v), m.grow(v));
            sameThenAgain("back", x.back(v), m.back(v));
            same("many", x.many(v), m.many(v));
            for (int which : FLAGS) same("odds", x.odds(v, which), m.odds(v, which));
        }
        for (int months = -1; months < 102; months++) same("down", x.down(months), m.down(months));
        same("down", x.down(LEAST), m.down(LEAST));
        same("down", x.down(MOST), m.down(MOST));
    }

    private static void bySheets() {
        for (int k : SHEETS) {
            sameThenAgain("lose", x.lose(k), m.lose(k));
            for (int i : CELLS) {
                for (int v : VALUES) sameThenAgain("put", x.put(k, i, v), m.put(k, i, v));
                for (int lane : LANES) {
                    same("cell", x.cell(k, i, lane), m.cell(k, i, lane));
                    sameThenAgain("sheet", x.sheet(k, lane, i), m.sheet(k, lane, i));
                    for (int n : CELLS) sameThenAgain("secret", x.secret(k, lane, i, n), m.secret(k, lane, i, n));
                }
            }
        }
    }

    private static void byNights() {
        for (int t : ANSWERS) {
            for (int k : SHEETS) {
                for (int lane : LANES) {
                    for (int i : CELLS) {
                        for (int n : CELLS) {
                            // All three that are told, and the next ones beyond.
                            for (int what = -1; what < 4; what++) {
                                same("nights", x.nights(t, k, lane, i, n, what), m.nights(t, k, lane, i, n, what));
                            }
                        }
                    }
                }
            }
        }
    }

    private static void byCopies() {
        for (int k : SHEETS) {
            for (int other : SHEETS) {
                for (int i : CELLS) {
                    for (int j : CELLS) {
                        for (int n : CELLS) sameThenAgain("copy", x.copy(k, i, other, j, n), m.copy(k, i, other, j, n));
                    }
                }
            }
        }
    }

    public static void main(String[] args) {
        for (way = 0; way < TEXTS.length; way++) {
            again();
            byAnswers();
            bySets();
            byValues();
            bySheets();
            // These hang on the secret little or not at all: two ways are enough.
            if (way % 3 == 2) byCopies();
            if (way > 1) byNights();
        }
        Bench.end("GridTest");
    }
}
