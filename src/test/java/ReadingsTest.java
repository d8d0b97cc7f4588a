/** Promises 14 to 19: reading, back, left, kinds, places, odds. */
public final class ReadingsTest {
    private static final long LOST = Long.MIN_VALUE;

    private ReadingsTest() {
    }

    private static void readingAndBack() {
        LieNights x = Bench.told("a,p2,s5,v9;3/4");
        for (int r = 0; r < 8; r++) {
            Bench.due("its number", x.reading(r % 3, r), r);
        }
        Bench.due("FULL", x.reading(0, 0), -4);
        Bench.due("UNKNOWN ahead of FULL", x.reading(3, 0), -1);
        Bench.due("OUTSIDE ahead of FULL", x.reading(0, 11), -2);
        Bench.due("how many", x.many(3), 8);
        Bench.due("back too many", x.back(9), -2);
        Bench.due("back below 0", x.back(-1), -2);
        Bench.due("back none", x.back(0), 8);
        Bench.due("back three", x.back(3), 5);
        Bench.due("how many then", x.many(3), 5);
        Bench.due("the next number", x.reading(0, 10), 5);
        Bench.due("back all", x.back(6), 0);
        Bench.due("back one of none", x.back(1), -2);
        Bench.due("no v of 11", x.reading(0, 11), -2);
        Bench.due("no v below", x.reading(0, -1), -2);
        Bench.due("no v of -8", x.reading(0, -8), -2);
        Bench.due("no v of -10", x.reading(0, -10), -2);
        Bench.due("UNKNOWN ahead of OUTSIDE", x.reading(-1, 11), -1);
        Bench.due("refusals change nothing", x.many(3), 0);
        Bench.due("BOUND", x.reading(0, -9), 0);
    }

    private static void withoutASecret() {
        LieNights x = new LieNights();
        Bench.due("reading", x.reading(0, 0), -1);
        Bench.due("back none", x.back(0), 0);
        Bench.due("back", x.back(1), -2);
        Bench.due("left", x.left(), -3);
        Bench.due("kinds", x.kinds(0), -1);
        Bench.due("places", x.places(0), -1);
        Bench.due("odds", x.odds(0, 0), LOST);
    }

    private static void left() {
        LieNights x = Bench.told("a,p2,s5,v9,p4,s4;3/4");
        Bench.due("left ahead of any", x.left(), 31);
        x.reading(0, 2);
        Bench.due("left behind one", x.left(), 24);
        x.reading(3, 0);
        Bench.due("left behind two", x.left(), 16);
        x.reading(4, -9);
        Bench.due("left, as he was bound", x.left(), 16);
        x.reading(1, 9);
        Bench.due("none left", x.left(), 0);
        x.back(1);
        Bench.due("taken back", x.left(), 16);
        x.move(4, 5);
        Bench.due("behind a move no reading is so", x.left(), 0);
        x.move(4, 4);
        x.back(3);
        x.reading(3, -9);
        Bench.due("bound by another", x.left(), 8);
    }

    private static void kinds() {
        // If answer 1 is the truth, answer 0 shows 4 as a PLAIN, 5 as a SLY, 2 as a VAIN one; if 2 is, 5, 6, 2.
        LieNights x = Bench.told("a,p1,p5,v6;3/4");
        Bench.due("kinds ahead of any", x.kinds(0), 7);
        x.reading(0, 5);
        Bench.due("a PLAIN, as 2 is the truth; a SLY, as 1 is", x.kinds(0), 3);
        Bench.due("of another answer they do not matter", x.kinds(1), 7);
        Bench.due("its own kind stays", x.ofAnswer(0, 0), 0);
        x.back(1);
        x.reading(0, 2);
        Bench.due("a VAIN one", x.kinds(0), 4);
        Bench.due("none of another's", x.kinds(2), 0);
        x.back(1);
        x.reading(0, 6);
        x.reading(2, -9);
        Bench.due("a SLY one", x.kinds(0), 2);
        Bench.due("worst goes by what it is", x.worst(7), 2);
        Bench.due("UNKNOWN", x.kinds(3), -1);
        Bench.due("UNKNOWN below", x.kinds(-1), -1);
    }

    private static void places() {
        LieNights x = Bench.told("a,p1,p5,v6;3/4");
        Bench.due("places ahead of any", x.places(1), 1023);
        x.reading(0, 3);
        // Answer 1 at 4, 3 apart from 1. Answer 0 at 2 or 8 (3 apart from 5), 3 or 9 (3 apart from 6). Answer 2 at 4.
        Bench.due("of a truth", x.places(1), 1 << 4);
        Bench.due("of the asked", x.places(0), 1 << 2 | 1 << 8 | 1 << 3 | 1 << 9);
        Bench.due("of the other", x.places(2), 1 << 4);
        Bench.due("its own place stays", x.ofAnswer(0, 1), 1);
        x.reading(1, -9);
        Bench.due("with BOUND", x.places(0), 1 << 2 | 1 << 8);
        Bench.due("none", x.places(2), 0);
        Bench.due("UNKNOWN", x.places(3), -1);
        Bench.due("UNKNOWN below", x.places(-1), -1);
    }

    private static void chance(LieNights x, int n, int upper, int lower) {
        Bench.due("odds' upper number of " + n, x.odds(n, 0), upper);
        Bench.due("odds' lower number of " + n, x.odds(n, 1), lower);
    }

    private static void odds() {
        LieNights x = Bench.told("a,p5,p5,p5,p5,p5,p5;1/1");
        int[][] want = {{0, 1}, {1, 6}, {1, 3}, {1, 2}, {2, 3}, {5, 6}, {1, 1}, {1, 1}, {1, 1}, {1, 1}};
        for (int n = 0; n < want.length; n++) {
            chance(x, n, want[n][0], want[n][1]);
        }
        x.reading(0, 9);
        chance(x, 2, 1, 3);
        Bench.due("OUTSIDE", x.odds(10, 0), LOST);
        Bench.due("OUTSIDE below", x.odds(-1, 0), LOST);
        Bench.due("which", x.odds(0, 2), LOST);
        Bench.due("which below", x.odds(0, -1), LOST);
        // She asks answer 3 first: it tells all others apart.
        Bench.text(x, "a,p2,s5,v9,p4,s4;3/4/9/2/7");
        chance(x, 1, 1, 5);
        chance(x, 2, 1, 1);
        // ASK is answer 0, the least: it shows 0 by 1, 2 by 2, 0 by 3. Of 1 and 3 she asks 1.
        Bench.text(x, "a,p4,p4,p2,p4;1/1");
        chance(x, 1, 1, 4);
        chance(x, 2, 3, 4);
        chance(x, 3, 1, 1);
    }

    public static void main(String[] args) {
        readingAndBack();
        withoutASecret();
        left();
        kinds();
        places();
        odds();
        Bench.end("ReadingsTest");
    }
}
