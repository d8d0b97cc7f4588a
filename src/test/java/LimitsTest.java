/**
 * The smallest and the largest number that each call takes, what the call answers, what fault() tells behind it, and
 * what it changes: nothing else.
 */
public final class LimitsTest {
    private static final int NONE = -9;
    private static final int KEPT = -1;
    private static final String WIDE = "a,p0,s9,v9,p5,s4,v0;9/1/9/5/4/6";

    private LimitsTest() {
    }

    private static void taken(String call, Ways.Way way, Ways.Call on, long want, int fault, String changes) {
        LieNights x = way.made();
        int ahead = Ways.leaveAnotherFault(x, 0);
        Bench.due(call, on.on(x), want);
        Bench.due("fault() behind " + call, x.fault(), fault == KEPT ? ahead : fault);
        Bench.due("what " + call + " changes", Seen.of(x).unlike(Seen.of(way.made())), changes);
    }

    private static void told(String call, Ways.Call on, long want) {
        taken(call, LimitsTest::wide, on, want, KEPT, "");
    }

    private static LieNights wide() {
        return Bench.told(WIDE);
    }

    private static LieNights least() {
        return Bench.told("a,v0,s0;0/1");
    }

    private static int text(String text) {
        return Bench.text(new LieNights(), text);
    }

    // ---- 1

    private static void answersOfAText() {
        Bench.due("no answers", text("a;1/1"), -101);
        Bench.due("one answer", text("a,p1;1/1"), -104);
        Bench.due("two answers", text("a,p1,p1;1/1"), 2);
        Bench.due("three answers", text("a,p1,p1,p1;1/1"), 3);
        Bench.due("six answers", text("a,p1,p1,p1,p1,p1,p1;1/1"), 6);
        Bench.due("the , of a seventh answer", text("a,p1,p1,p1,p1,p1,p1,p1;1/1"), -119);
        Bench.due("the , of a seventh answer, at the end", text("a,p1,p1,p1,p1,p1,p1,"), -119);
        Bench.due("six answers, ended too soon", text("a,p1,p1,p1,p1,p1,p1"), -119);
    }

    private static void pillarsOfAText() {
        Bench.due("no pillars", text("a,p1,p1;1"), -109);
        Bench.due("one pillar", text("a,p1,p1;1/1"), 2);
        Bench.due("five pillars", text("a,p1,p1;1/1/1/1/1/1"), 2);
        Bench.due("the / of a sixth pillar", text("a,p1,p1;1/1/1/1/1/1/1"), -119);
        Bench.due("the / of a sixth pillar, at the end", text("a,p1,p1;1/1/1/1/1/1/"), -119);
        Bench.due("the / of a second pillar, at the end", text("a,p1,p1;1/1/"), -112);
        Bench.due("a code behind the fifth", text("a,p1,p1;1/1/1/1/1/11"), -119);
        LieNights x = new LieNights();
        Bench.due("most of all", Bench.text(x, WIDE), 6);
        Bench.due("its pillars", x.many(1), 5);
    }

    /** At each place of the text all codes 0 to 127: those that go on there, and the next ones beyond, fault there. */
    private static void codesOfAText() {
        String text = "a,p1,s5;3/4";
        String[] due = {"a", ",", "psv", "0123456789", ",", "psv", "0123456789", ";,", "0123456789", "/", "123456789"};
        for (int place = 0; place < text.length(); place++) {
            for (char code = 0; code < 128; code++) {
                String changed = text.substring(0, place) + code + text.substring(place + 1);
                int got = text(changed);
                if (due[place].indexOf(code) < 0) {
                    Bench.due("a fault at " + place + " of " + changed, got, -100 - place);
                } else if (place != 7 || code == ';') {
                    Bench.due("answers of " + changed, got, 2);
                } else {
                    Bench.due("the code behind a , in " + changed, got, -108);
                }
            }
        }
        for (char code = 0; code < 128; code++) {
            Bench.due("behind the text " + code, text(text + code), code == '/' ? -112 : -111);
            int beyond = text("a,p1,p1,p1,p1,p1,p1" + code);
            Bench.due("behind the sixth answer " + code, beyond, code == ';' ? -120 : -119);
        }
    }

    private static void numbersOfAText() {
        for (int v = 0; v < 10; v++) {
            LieNights x = Bench.told("a,p" + v + ",s" + (9 - v) + ";" + v + "/" + Math.max(1, v));
            Bench.due("the place", x.ofAnswer(0, 1), v);
            Bench.due("the other place", x.ofAnswer(1, 1), 9 - v);
            Bench.due("the growth", x.many(2), v);
            x.grow(1);
            Bench.due("the weight", x.months(1), Math.max(1, v));
        }
        String[] letters = {"p", "s", "v"};
        for (int kind = 0; kind < 3; kind++) {
            LieNights x = Bench.told("a," + letters[kind] + "0," + letters[(kind + 1) % 3] + "0;0/1");
            Bench.due("the kind", x.ofAnswer(0, 0), kind);
            Bench.due("the other kind", x.ofAnswer(1, 0), (kind + 1) % 3);
        }
    }

    private static void cellsOfAText() {
        int[] codes = new int[60];
        for (int sheet = 0; sheet < 4; sheet++) {
            for (int lane = 0; lane < 3; lane++) {
                for (int from : new int[] {0, 1, 29}) {
                    LieNights x = new LieNights();
                    for (int c = 0; c < WIDE.length(); c++) {
                        codes[from + c] = WIDE.charAt(c);
                    }
                    Bench.row(x, sheet, lane, codes);
                    Bench.due("a text from " + from + " on", x.secret(sheet, lane, from, WIDE.length()), 6);
                    Bench.due("and one cell less", x.secret(sheet, lane, from, WIDE.length() - 2), 6);
                    Bench.due("and all behind it", x.secret(sheet, lane, from, 60 - from), from == 29 ? 6 : -131);
                    Bench.due("no cells at the end", x.secret(sheet, lane, 60, 0), -100);
                    Bench.due("INDEX beyond it", x.secret(sheet, lane, 61, 0), -13);
                }
            }
        }
    }

    private static void answersTold() {
        told("ofAnswer of the first, kind", x -> x.ofAnswer(0, 0), 0);
        told("ofAnswer of the first, place", x -> x.ofAnswer(0, 1), 0);
        told("ofAnswer of the last, kind", x -> x.ofAnswer(5, 0), 2);
        told("ofAnswer of the last, place", x -> x.ofAnswer(5, 1), 0);
        told("shown, the least", x -> x.shown(0, 5), 0);
        told("shown, the most of a PLAIN", x -> x.shown(0, 1), 9);
        told("shown, the most of all", x -> x.shown(1, 0), 10);
        told("shown, the most of a VAIN", x -> x.shown(2, 0), 4);
        told("shown, the least of a SLY", x -> x.shown(1, 2), 1);
        for (int a = 0; a < 6; a++) {
            int same = a;
            told("shown, BOUND", x -> x.shown(same, same), NONE);
        }
    }

    private static void movedAndGrown() {
        taken("move to 0", LimitsTest::wide, x -> x.move(1, 0), 9, KEPT, "place-1");
        taken("move to 9", LimitsTest::wide, x -> x.move(0, 9), 0, KEPT, "place-0");
        taken("move of the last", LimitsTest::wide, x -> x.move(5, 9), 0, KEPT, "place-5");
        taken("move to where it is", LimitsTest::wide, x -> x.move(5, 0), 0, KEPT, "");
        taken("grow to 0", LimitsTest::wide, x -> x.grow(0), 9, KEPT, "growth");
        taken("grow to 9", LimitsTest::least, x -> x.grow(9), 0, KEPT, "growth");
        taken("grow to what it is", LimitsTest::wide, x -> x.grow(9), 9, KEPT, "");
        // A move keeps the readings; by them another answer may be the truth.
        taken("grow keeps the readings", Ways::ready, x -> x.grow(4), 3, KEPT, "growth");
        LieNights x = Ways.ready();
        x.move(3, 5);
        Bench.due("a move keeps the readings", x.many(3), 3);
        Bench.due("by them none is left", x.left(), 0);
        x.move(3, 4);
        Bench.due("moved back", Seen.of(x).unlike(Seen.of(Ways.ready())), "");
    }

    // ---- 2

    /** Sheet 1 has 21 nights of all alike answers and then the truth's: shorts. */
    private static LieNights manyNights() {
        LieNights x = wide();
        int[] row = new int[22];
        for (int night = 0; night < 19; night++) {
            row[night] = 5;
        }
        row[20] = 3;
        row[21] = 4;
        Bench.row(x, 1, 1, row);
        return x;
    }

    private static void nightsTold(int t, int i, int n, int may, int bound, int last) {
        Ways.Way way = LimitsTest::manyNights;
        taken("nights, may", way, x -> x.nights(t, 1, 1, i, n, 0), may, 0, "");
        taken("nights, bound", way, x -> x.nights(t, 1, 1, i, n, 1), bound, 0, "");
        taken("nights, last", way, x -> x.nights(t, 1, 1, i, n, 2), last, 0, "");
    }

    private static void nightsAtTheirLimits() {
        nightsTold(0, 0, 0, 63, NONE, NONE);
        nightsTold(5, 22, 0, 63, NONE, NONE);
        nightsTold(0, 0, 1, 1, NONE, 0);
        nightsTold(0, 0, 20, 1, 19, NONE);
        nightsTold(0, 0, 19, 1, NONE, 0);
        nightsTold(1, 0, 20, 6, NONE, 9);
        nightsTold(3, 1, 20, 8, 19, NONE);
        nightsTold(4, 2, 20, 16, 19, NONE);
        nightsTold(3, 2, 20, 8, 18, NONE);
        nightsTold(5, 0, 20, 32, 0, NONE);
        nightsTold(4, 21, 1, 16, 0, NONE);
        nightsTold(2, 21, 1, 6, NONE, 6);
    }

    // ---- 3

    private static void setsAtTheirLimits() {
        told("worst of the empty set", x -> x.worst(0), 0);
        told("ask of the empty set", x -> x.ask(0), NONE);
        for (int t = 0; t < 6; t++) {
            int alone = t;
            told("worst of one", x -> x.worst(1 << alone), 1);
            told("ask of one", x -> x.ask(1 << alone), alone);
            told("mean of one, upper", x -> x.mean(1 << alone, 0), 1);
            told("mean of one, lower", x -> x.mean(1 << alone, 1), 1);
            told("parts of one by itself", x -> x.parts(alone, 1 << alone), 1);
            told("parts of none", x -> x.parts(alone, 0), 0);
        }
        // Answer 0 shows 9, 9, 5, 4, 0 by the others: all but 1 and 2 are told apart. 1 + 2 + 3 + 2 + 2 + 2 nights.
        told("worst of all", x -> x.worst(63), 3);
        told("ask of all", x -> x.ask(63), 0);
        told("mean of all, upper", x -> x.mean(63, 0), 2);
        told("mean of all, lower", x -> x.mean(63, 1), 1);
        told("parts of all", x -> x.parts(0, 63), 5);
        told("parts of all by the last", x -> x.parts(5, 63), 4);
        taken("worst of both", LimitsTest::least, x -> x.worst(3), 2, KEPT, "");
        taken("ask of both", LimitsTest::least, x -> x.ask(3), 0, KEPT, "");
        taken("mean of both, upper", LimitsTest::least, x -> x.mean(3, 0), 3, KEPT, "");
        taken("mean of both, lower", LimitsTest::least, x -> x.mean(3, 1), 2, KEPT, "");
        taken("parts of both", LimitsTest::least, x -> x.parts(1, 3), 2, KEPT, "");
        LieNights two = least();
        LieNights six = wide();
        Bench.due("a set of a third answer", two.worst(4), -2);
        Bench.due("a set of a third answer, ask", two.ask(4), -2);
        Bench.due("a set of a third answer, mean", two.mean(4, 0), Long.MIN_VALUE);
        Bench.due("a set of a third answer, parts", two.parts(0, 4), -2);
        Bench.due("a set of a seventh answer", six.worst(64), -2);
        Bench.due("a set of a seventh answer, ask", six.ask(64), -2);
        Bench.due("a set of a seventh answer, mean", six.mean(64, 0), Long.MIN_VALUE);
        Bench.due("a set of a seventh answer, parts", six.parts(5, 64), -2);
    }

    private static void monthsAtTheirLimits() {
        told("months of no pillars", x -> x.months(0), 0);
        told("months of all", x -> x.months(31), 3);
        told("months of the first", x -> x.months(1), 1);
        told("months of the last", x -> x.months(16), 1);
        Bench.due("a sixth pillar", wide().months(32), -2);
        Bench.due("a second pillar", least().months(2), -2);
        taken("months of no pillars, no growth", LimitsTest::least, x -> x.months(0), 0, KEPT, "");
        taken("months of one, no growth", LimitsTest::least, x -> x.months(1), NONE, KEPT, "");
        // WEIGHTS of 45 together are the most there are.
        LieNights x = Bench.told("a,p0,p0;1/9/9/9/9/9");
        Bench.due("the most months", x.months(31), 45);
        x.grow(9);
        Bench.due("just strong enough", x.months(31), 5);
        x.grow(8);
        Bench.due("strong enough by 3", x.months(31), 6);
        x.grow(5);
        Bench.due("just strong enough by 5", x.months(31), 9);
    }

    private static void downAtItsLimits() {
        told("down behind 0", x -> x.down(0), NONE);
        told("down behind 1", x -> x.down(1), 23);
        told("down behind 2", x -> x.down(2), 14);
        told("down behind 99", x -> x.down(99), 14);
        // The lightest two weigh 2, the heaviest 18.
        LieNights x = Bench.told("a,p0,p0;1/9/1/9/1/5");
        Bench.due("one short of the lightest", x.down(1), NONE);
        Bench.due("just strong enough for the lightest", x.down(2), 13);
        Bench.due("one short of the heaviest", x.down(17), 4);
        Bench.due("just strong enough for the heaviest", x.down(18), 2);
        Bench.due("behind 98", x.down(98), 2);
        Bench.due("behind 99", x.down(99), 2);
        Bench.due("behind 100", x.down(100), -2);
    }

    // ---- 4

    private static void readingsAtTheirLimits() {
        LieNights x = wide();
        int[] values = {0, 10, NONE, 1, 9, 5};
        for (int r = 0; r < values.length; r++) {
            Bench.due("reading", x.reading(r, values[r]), r);
            Bench.due("readings", x.many(3), r + 1);
        }
        Bench.due("the seventh", x.reading(5, 0), 6);
        Bench.due("the eighth", x.reading(0, 0), 7);
        Bench.due("the ninth", x.reading(0, 0), -4);
        Bench.due("back more than there are", x.back(9), -2);
        Bench.due("back none", x.back(0), 8);
        Bench.due("back one", x.back(1), 7);
        Bench.due("back more than are left", x.back(8), -2);
        Bench.due("the eighth again", x.reading(0, 0), 7);
        Bench.due("back all", x.back(8), 0);
        Bench.due("back one of none", x.back(1), -2);
        Bench.due("back none of none", x.back(0), 0);
        Bench.due("the first again", x.reading(0, 0), 0);
        taken("back of none", Ways::ready, y -> y.back(0), 3, KEPT, "");
        taken("back of a new object", Ways::anew, y -> y.back(0), 0, KEPT, "");
        LieNights y = Ways.ready();
        Bench.due("back all", y.back(3), 0);
        Bench.due("then it is unread", Seen.of(y).unlike(Seen.of(Ways.unread())), "");
    }

    /** 0 and 10 are shown, and a READING of them is so; 9 by a PLAIN one, 4 by a VAIN one are their most. */
    private static void leftByTheLeastAndTheMost() {
        int[][] want = {{0, 0, 32}, {0, 9, 6}, {1, 1, 4}, {1, 10, 33}, {2, 0, 2}, {2, 4, 33}, {5, 4, 6}, {5, 0, 1},
            {0, 10, 0}, {1, 0, 0}, {2, 5, 0}, {0, NONE, 1}, {5, NONE, 32}};
        for (int[] w : want) {
            LieNights x = wide();
            x.reading(w[0], w[1]);
            Bench.due("left by " + w[0] + " that showed " + w[1], x.left(), w[2]);
        }
    }

    private static void readingsTold() {
        for (int a = 0; a < 6; a++) {
            int of = a;
            told("kinds without readings", x -> x.kinds(of), 7);
            told("places without readings", x -> x.places(of), 1023);
        }
        told("left without readings", x -> x.left(), 63);
        taken("left of two", LimitsTest::least, x -> x.left(), 3, KEPT, "");
        taken("left", Ways::ready, x -> x.left(), 8, KEPT, "");
        taken("left of eight", Ways::full, x -> x.left(), 8, KEPT, "");
        for (int a = 0; a < 4; a++) {
            int of = a;
            taken("kinds", Ways::ready, x -> x.kinds(of), new int[] {1, 2, 4, 7}[a], KEPT, "");
            taken("kinds of eight", Ways::full, x -> x.kinds(of), new int[] {1, 2, 4, 7}[a], KEPT, "");
            // Answer 3 at 4 is 2 apart from 2, 1 from 5, 5 from 9; a VAIN one shows 2 of 4 apart, too.
            int[] places = {1 << 2 | 1 << 6, 1 << 3 | 1 << 5, 1 << 0 | 1 << 8 | 1 << 9, 1 << 4};
            taken("places", Ways::ready, x -> x.places(of), places[of], KEPT, "");
            taken("places of eight", Ways::full, x -> x.places(of), places[of], KEPT, "");
        }
    }

    private static void oddsAtTheirLimits() {
        int[][] want = {{0, 1}, {1, 6}, {5, 6}, {1, 1}, {1, 1}, {1, 1}, {1, 1}, {1, 1}, {1, 1}, {1, 1}};
        for (int n = 0; n < 10; n++) {
            int nights = n;
            told("odds, upper", x -> x.odds(nights, 0), want[n][0]);
            told("odds, lower", x -> x.odds(nights, 1), want[n][1]);
        }
        taken("odds of two, upper", LimitsTest::least, x -> x.odds(1, 0), 1, KEPT, "");
        taken("odds of two, lower", LimitsTest::least, x -> x.odds(1, 1), 2, KEPT, "");
        taken("odds whatever the readings are", Ways::full, x -> x.odds(1, 1), 4, KEPT, "");
    }

    // ---- 5

    private static void sheetsAtTheirLimits() {
        for (int k = 0; k < 4; k++) {
            for (int lane = 0; lane < 3; lane++) {
                for (int n : new int[] {0, 1, 59, 60}) {
                    LieNights x = new LieNights();
                    Ways.leaveAnotherFault(x, 0);
                    Bench.due("sheet", x.sheet(k, lane, n), 1);
                    Bench.due("its fault", x.fault(), 0);
                    Bench.due("the cell behind the last", x.put(k, n, 1), -13);
                    Bench.due("the cell ahead of the first", x.put(k, -1, 1), -13);
                    for (int i = 0; i < n; i += Math.max(1, n - 1)) {
                        Bench.due("0 at first", x.cell(k, i, lane), 0);
                        Bench.due("put", x.put(k, i, 100 + i), 1);
                        Bench.due("its fault", x.fault(), 0);
                        Bench.due("cell", x.cell(k, i, lane), (byte) (100 + i) == 100 + i || lane > 0 ? 100 + i : i - 156);
                        Bench.due("its fault", x.fault(), 0);
                    }
                    Bench.due("cell behind the last", x.cell(k, n, lane), Long.MIN_VALUE);
                    Bench.due("lose", x.lose(k), 1);
                    Bench.due("lose once more", x.lose(k), 0);
                }
            }
        }
    }

    private static void sheetsChangeNothingElse() {
        taken("sheet", Ways::ready, x -> x.sheet(3, 0, 1), 1, 0, "cell-3-0 end-3-0 end-3-1 end-3-2");
        taken("sheet of the same", Ways::ready, x -> x.sheet(2, 1, 0), 1, 0, "");
        taken("sheet of another lane", Ways::ready, x -> x.sheet(2, 2, 0), 1, 0, "end-2-1 end-2-2");
        taken("put", Ways::ready, x -> x.put(1, 4, 5), 1, 0, "cell-1-4");
        taken("put of what it is", Ways::ready, x -> x.put(1, 4, 4), 1, 0, "");
        taken("lose", Ways::ready, x -> x.lose(2), 1, KEPT, "end-2-0 end-2-1 end-2-2");
        taken("lose of nothing", Ways::ready, x -> x.lose(3), 0, KEPT, "");
        taken("cell", Ways::ready, x -> x.cell(1, 4, 2), 4, 0, "");
        taken("copy", Ways::ready, x -> x.copy(1, 4, 1, 0, 1), 1, 0, "cell-1-0");
        taken("copy of none", Ways::ready, x -> x.copy(1, 5, 1, 5, 0), 0, 0, "");
        taken("copy of none of a row without cells", Ways::ready, x -> x.copy(2, 0, 2, 0, 0), 0, 0, "");
        taken("copy of all", Ways::ready, x -> x.copy(0, 0, 0, 0, 21), 21, 0, "");
        taken("tell of a PLAIN", Ways::ready, x -> x.tell(0), 2, KEPT, "trace");
        taken("whisper of a PLAIN", Ways::ready, x -> x.whisper(0), 0, KEPT, "trace");
        taken("as a VAIN", Ways::ready, x -> x.as(2, 2), 1, 0, "");
        taken("as a SLY", Ways::ready, x -> x.as(2, 1), 1, 0, "");
        taken("as a PLAIN", Ways::ready, x -> x.as(2, 0), 1, 0, "");
        taken("trace of a new object", Ways::anew, x -> x.trace(), 0, KEPT, "");
        for (int what = 0; what < 4; what++) {
            int of = what;
            taken("many", Ways::full, x -> x.many(of), new int[] {4, 3, 3, 8}[what], KEPT, "");
            taken("many of a new object", Ways::anew, x -> x.many(of), 0, KEPT, "");
        }
    }

    private static void copyAtItsLimits() {
        for (int lane = 0; lane < 3; lane++) {
            LieNights x = new LieNights();
            int[] one = new int[60];
            for (int i = 0; i < 60; i++) {
                one[i] = i + 1;
            }
            Bench.row(x, 0, lane, one);
            x.sheet(3, lane, 60);
            Bench.due("copy of all", x.copy(0, 0, 3, 0, 60), 60);
            Bench.due("one more", x.copy(0, 0, 3, 0, 61), -13);
            Bench.due("of none at both ends", x.copy(0, 60, 3, 60, 0), 0);
            Bench.due("of none beyond the end", x.copy(0, 61, 3, 60, 0), -13);
            Bench.due("of none beyond the other end", x.copy(0, 60, 3, 61, 0), -13);
            Bench.due("the last to the first", x.copy(0, 59, 3, 0, 1), 1);
            Bench.due("the first to the last", x.copy(0, 0, 3, 59, 1), 1);
            for (int i = 0; i < 60; i++) {
                Bench.due("copied", x.cell(3, i, lane), i == 0 ? 60 : i == 59 ? 1 : i + 1);
            }
        }
    }

    public static void main(String[] args) {
        answersOfAText();
        pillarsOfAText();
        codesOfAText();
        numbersOfAText();
        cellsOfAText();
        answersTold();
        movedAndGrown();
        nightsAtTheirLimits();
        setsAtTheirLimits();
        monthsAtTheirLimits();
        downAtItsLimits();
        readingsAtTheirLimits();
        leftByTheLeastAndTheMost();
        readingsTold();
        oddsAtTheirLimits();
        sheetsAtTheirLimits();
        sheetsChangeNothingElse();
        copyAtItsLimits();
        Bench.end("LimitsTest");
    }
}
