import java.util.Arrays;

/** Sentences of the document's terms that name a boundary case, each with a test of its own that quotes it. */
public final class SentencesTest {
    private static final long LOST = Long.MIN_VALUE;
    private static final int NONE = -9;

    private SentencesTest() {
    }

    // ---- a new object, a row without cells

    /** "No SECRET (no ANSWERS, PILLARS), SHEETS have nothing": what each call answers then. */
    private static void aNewObject() {
        LieNights x = new LieNights();
        long[] unknown = {x.ofAnswer(0, 0), x.ofAnswer(0, 1), x.move(0, 0), x.shown(0, 0), x.nights(0, 0, 0, 0, 0, 0),
            x.parts(0, 0), x.reading(0, 0), x.reading(0, NONE), x.kinds(0), x.places(0), x.tell(0), x.whisper(0), x.as(0, 0)};
        long[] state = {x.grow(0), x.grow(9), x.worst(0), x.ask(0), x.months(0), x.down(0), x.down(99), x.left()};
        long[] lost = {x.mean(0, 0), x.mean(1, 1), x.odds(0, 0), x.odds(9, 1), x.cell(0, 0, 0), x.cell(3, 59, 2)};
        long[] zero = {x.many(0), x.many(1), x.many(2), x.many(3), x.back(0), x.trace(), x.lose(0), x.lose(3)};
        Bench.due("NULL", x.fault(), 1);
        long[] nothing = {x.secret(0, 0, 0, 0), x.secret(3, 2, 60, 60), x.put(0, 0, 0), x.put(3, 59, 0), x.copy(0, 0, 1, 0, 0),
            x.copy(3, 0, 3, 0, 0)};
        allAre(unknown, -1);
        allAre(state, -3);
        allAre(lost, LOST);
        allAre(zero, 0);
        allAre(nothing, -11);
        Bench.due("then it is as a new one", Seen.of(x).unlike(Seen.of(new LieNights())), "");
    }

    private static void allAre(long[] got, long want) {
        for (int i = 0; i < got.length; i++) {
            Bench.due("call " + i + " of those that answer " + want, got[i], want);
        }
    }

    /** "a row of 0 .. 60 numbers": one of 0 numbers is something, but has no cells. */
    private static void aRowWithoutCells() {
        for (int lane = 0; lane < 3; lane++) {
            LieNights x = Bench.told("a,p6,s9,p7;3/4/9");
            Bench.due("sheet", x.sheet(1, lane, 0), 1);
            Bench.due("no codes", x.secret(1, lane, 0, 0), -100);
            Bench.due("no nights, may", x.nights(0, 1, lane, 0, 0, 0), 7);
            Bench.due("no nights, bound", x.nights(0, 1, lane, 0, 0, 1), NONE);
            Bench.due("no nights, last", x.nights(0, 1, lane, 0, 0, 2), NONE);
            Bench.due("none goes to itself", x.copy(1, 0, 1, 0, 0), 0);
            long[] index = {x.secret(1, lane, 1, 0), x.secret(1, lane, 0, 1), x.nights(0, 1, lane, 1, 0, 0),
                x.nights(0, 1, lane, 0, 1, 0), x.put(1, 0, 0), x.copy(1, 0, 1, 0, 1), x.copy(1, 1, 1, 0, 0), x.copy(1, 0, 1, 1, 0)};
            allAre(index, -13);
            Bench.due("no cell", x.cell(1, 0, lane), LOST);
            Bench.due("INDEX", x.fault(), 3);
            Bench.due("no cell of another lane", x.cell(1, 0, (lane + 1) % 3), LOST);
            Bench.due("CAST", x.fault(), 2);
            x.sheet(2, lane, 3);
            Bench.due("none goes to the end of another", x.copy(1, 0, 2, 3, 0), 0);
            Bench.due("none comes from the end of another", x.copy(2, 3, 1, 0, 0), 0);
            Bench.due("it is something", x.lose(1), 1);
            Bench.due("it was lost", x.lose(1), 0);
        }
    }

    // ---- 1

    /** "A TEXT that is taken makes all anew, but for the SHEETS and TRACE: no READINGS." */
    private static void aTakenTextMakesAllAnew() {
        for (Ways.Way way : new Ways.Way[] {Ways::unread, Ways::ready, Ways::full}) {
            LieNights x = way.made();
            x.move(1, 0);
            x.grow(8);
            Bench.due("the same text again", x.secret(0, 0, 0, 21), 4);
            Bench.due("its fault", x.fault(), 0);
            Bench.due("what is not as ahead of it", Seen.of(x).unlike(Seen.of(Ways.unread())), "");
        }
        String[] texts = {"a,v9,v9;0/9", "a,p0,s1,v2,p3,s4,v5;9/1/2/3/4/5", Ways.TEXT, "a,s1,p2,v3;5/5/5"};
        for (String before : texts) {
            for (String text : texts) {
                LieNights x = Bench.told(before);
                x.worst(3);
                x.reading(0, 0);
                Bench.text(x, text);
                Bench.due(text + " behind " + before, Seen.of(x).unlike(Seen.of(Bench.told(text))), "");
                LieNights y = Bench.told(before);
                LieNights z = Bench.told(text);
                y.mean(3, 0);
                Bench.text(y, text);
                for (int set = 0; set < 64; set++) {
                    Bench.due("worst", y.worst(set), z.worst(set));
                    Bench.due("ask", y.ask(set), z.ask(set));
                    Bench.due("mean", y.mean(set, 0), z.mean(set, 0));
                }
            }
        }
    }

    /** A TEXT with a FIRST FAULT changes nothing: what was read ahead of the fault neither. */
    private static void aRefusedTextChangesNothing() {
        String whole = "a,v9,v8,v7,v6,v5,v4;9/1/2/3/4/5";
        for (int n = 0; n < whole.length(); n++) {
            LieNights x = Ways.full();
            LieNights y = Ways.full();
            int got = Bench.text(x, whole.substring(0, n) + "!");
            Bench.due("a fault at " + n, got, -100 - n);
            Bench.text(y, "!");
            String unlike = Seen.of(x).unlike(Seen.of(y));
            Bench.due("what is unlike but the sheet", unlike.replaceAll("(cell|end)-0-\\d+ ?", ""), "");
        }
    }

    /** "FIRST FAULT: ... how many codes there are, if it just ends too soon." */
    private static void aTextThatEndsTooSoon() {
        String longest = "a,p1,p1,p1,p1,p1,p1;1/1/1/1/1/1";
        for (int n = 0; n <= longest.length(); n++) {
            boolean whole = n > 21 && n % 2 == 1;
            Bench.due(n + " codes", Bench.text(new LieNights(), longest.substring(0, n)), whole ? 6 : -100 - n);
        }
    }

    /** "what comes to a cell of it is cut to its LANE": so are the codes of a TEXT and the answers of NIGHTS. */
    private static void codesThatAreCut() {
        String text = "a,p1,s5;3/4";
        int[] beyond = {256, 65536, -256, -65536, 1 << 24, Integer.MIN_VALUE};
        for (int add : beyond) {
            for (int lane = 0; lane < 3; lane++) {
                int[] codes = new int[text.length()];
                for (int c = 0; c < codes.length; c++) {
                    codes[c] = text.charAt(c) + add;
                }
                LieNights x = new LieNights();
                Bench.row(x, 1, lane, codes);
                boolean cut = lane == 0 || lane == 1 && add % 65536 == 0;
                Bench.due("codes and " + add, x.secret(1, lane, 0, codes.length), cut ? 2 : -100);
                Bench.text(x, text);
                Bench.row(x, 1, lane, 1 + add);
                Bench.due("a night and " + add, x.nights(0, 1, lane, 0, 1, 2), cut ? 5 : -1);
            }
        }
    }

    /** "A SECRET by a TEXT of n cells": what becomes of the SHEET behind it does not matter. */
    private static void theSecretIsApartFromItsSheet() {
        LieNights x = Bench.told(Ways.TEXT);
        LieNights y = Bench.told(Ways.TEXT);
        for (int c = 0; c < 21; c++) {
            x.put(0, c, '9');
        }
        x.sheet(0, 2, 21);
        x.lose(0);
        y.lose(0);
        Bench.due("what is unlike", Seen.of(x).unlike(Seen.of(y)), "");
    }

    /** "PLACE of an ANSWER becomes v": all that is asked of it behind that goes by v, ahead of it by what it was. */
    private static void allGoesByThePlaceThatIs() {
        LieNights x = Bench.told("a,p1,p1,p1,s1;1/1");
        x.reading(0, 3);
        asksOf(x, 4, 5, 2, 4, 0, 2);
        x.move(3, 4);
        asksOf(x, 3, 2, 1, 3, 8, 3);
        x.move(1, 2);
        asksOf(x, 2, 7, 4, 2, 8, 4);
        x.move(1, 1);
        asksOf(x, 3, 2, 1, 3, 8, 3);
        x.kinds(3);
        x.places(1);
        asksOf(x, 3, 2, 1, 3, 8, 3);
    }

    /** WORST and MEAN of all four, the least n of which ODDS are sure, LEFT by what was read, PARTS of all by the first. */
    private static void asksOf(LieNights x, int worst, int upper, int lower, int sure, int left, int parts) {
        Bench.due("sure", x.odds(sure, 0) * 10 + x.odds(sure, 1), 11);
        Bench.due("not sure", x.odds(sure - 1, 0) < x.odds(sure - 1, 1) ? 1 : 0, 1);
        Bench.due("worst", x.worst(15), worst);
        Bench.due("mean", x.mean(15, 0), upper);
        Bench.due("mean's lower", x.mean(15, 1), lower);
        Bench.due("left", x.left(), left);
        Bench.due("parts", x.parts(0, 15), parts);
    }

    /** "SHOWN ... by a PLAIN one how far their PLACES are apart; by a SLY one 1 more; by a VAIN one half." */
    private static void shownByAllPlaces() {
        LieNights x = Bench.told("a,p0,s0,v0,p0,s0,v0;1/1");
        for (int one = 0; one < 10; one++) {
            for (int other = 0; other < 10; other++) {
                x = one % 2 == 0 && other == 0 ? Bench.told("a,p0,s0,v0,p0,s0,v0;1/1") : x;
                for (int a = 0; a < 3; a++) {
                    x.move(a, one);
                    x.move(a + 3, other);
                }
                int apart = one > other ? one - other : other - one;
                // The kind of the one that is the truth does not matter.
                for (int t = 3; t < 6; t++) {
                    Bench.due("by a PLAIN", x.shown(0, t), apart);
                    Bench.due("by a SLY", x.shown(1, t), 1 + apart);
                    Bench.due("by a VAIN", x.shown(2, t), new int[] {0, 0, 1, 1, 2, 2, 3, 3, 4, 4}[apart]);
                }
            }
        }
    }

    /** "If it is the TRUTH itself, he is BOUND (told as NONE)": another one at the same PLACE is not it. */
    private static void boundByTheTruthAlone() {
        LieNights x = Bench.told("a,p4,p4,s4,s4,v4,v4;1/1");
        int[] atThePlace = {0, 0, 1, 1, 0, 0};
        for (int a = 0; a < 6; a++) {
            for (int t = 0; t < 6; t++) {
                Bench.due("shown by " + a + " if " + t, x.shown(a, t), a == t ? NONE : atThePlace[a]);
            }
        }
    }

    // ---- 2

    /** "if he is BOUND, all that comes behind does not matter"; "up to the one on which he is BOUND, it, too". */
    private static void behindTheBoundNight() {
        LieNights x = Bench.told("a,p4,p4,s4,s4,v4,v4;1/1");
        Bench.row(x, 1, 0, 0, 1, 2, 3, 4, 5, 0, 1);
        for (int t = 0; t < 6; t++) {
            for (int n = 0; n <= 8; n++) {
                boolean bound = t < n;
                // All are alike until they are asked: those not yet asked stay.
                int may = bound ? 1 << t : 63 & -1 << Math.min(n, 6);
                Bench.due("may of " + t + ", " + n, x.nights(t, 1, 0, 0, n, 0), may);
                Bench.due("bound of " + t + ", " + n, x.nights(t, 1, 0, 0, n, 1), bound ? t : NONE);
                int last = bound || n == 0 ? NONE : n == 3 || n == 4 ? 1 : 0;
                Bench.due("last of " + t + ", " + n, x.nights(t, 1, 0, 0, n, 2), last);
            }
        }
        Bench.row(x, 1, 0, 3, 3, 0, 3);
        Bench.due("the first night of two on which he is bound", x.nights(3, 1, 0, 0, 4, 1), 0);
        Bench.due("the first of the cells that are taken", x.nights(3, 1, 0, 1, 3, 1), 0);
        Bench.due("the first of the cells behind", x.nights(3, 1, 0, 2, 2, 1), 1);
        Bench.due("asked twice", x.nights(0, 1, 0, 0, 2, 0), 55);
        Bench.due("the last that was shown, asked twice", x.nights(0, 1, 0, 0, 2, 2), 1);
        Bench.due("bound on the last night alone", x.nights(0, 1, 0, 0, 3, 1), 2);
        Bench.due("then nothing was shown last", x.nights(0, 1, 0, 0, 3, 2), NONE);
        Bench.due("bound ahead of the last night", x.nights(0, 1, 0, 0, 4, 2), NONE);
    }

    /** "NIGHTS of n such cells" from i on: the ones ahead of them and behind them may be no ANSWERS. */
    private static void nightsOfTheirCellsAlone() {
        LieNights x = Bench.told("a,p2,s5,v9,p4;1/1");
        Bench.row(x, 1, 2, 4, 0, 3, -1);
        Bench.due("may", x.nights(1, 1, 2, 1, 2, 0), 2);
        Bench.due("bound", x.nights(3, 1, 2, 1, 2, 1), 1);
        Bench.due("last", x.nights(1, 1, 2, 1, 2, 2), 1);
        Bench.due("no night between them", x.nights(1, 1, 2, 1, 0, 0), 15);
        Bench.due("no night at the end", x.nights(1, 1, 2, 4, 0, 0), 15);
        Bench.due("with the one ahead", x.nights(1, 1, 2, 0, 3, 0), -1);
        Bench.due("with the one behind", x.nights(1, 1, 2, 1, 3, 0), -1);
    }

    // ---- 3

    private static void planned(String text, int set, int worst, int ask, int upper, int lower) {
        LieNights x = Bench.told(text);
        Bench.due("worst of " + set + " by " + text, x.worst(set), worst);
        Bench.due("ask of " + set + " by " + text, x.ask(set), ask);
        Bench.due("mean of " + set + " by " + text, x.mean(set, 0), upper);
        Bench.due("mean's lower of " + set + " by " + text, x.mean(set, 1), lower);
    }

    /** "any ANSWER (of the set or not)"; "ASK: the least ANSWER by which she may begin so". */
    private static void askedOfTheSetOrNot() {
        // As good as one of the set, and less.
        planned("a,p6,s9,p7;1/1", 6, 2, 0, 3, 2);
        // The only one by which two nights are enough: of the set by none.
        planned("a,v4,s2,s3,v1,p1;1/1", 15, 2, 4, 2, 1);
        planned("a,v2,p1,v2,v0,v3,s3;1/1", 27, 2, 5, 2, 1);
        // The mean, too, wants one that is not of the set.
        planned("a,s1,v1,v1,v1,v0,v0;1/1", 62, 4, 0, 14, 5);
        // One by which nothing is learnt is none of them, though it is the least.
        planned("a,p5,p4,p6;1/1", 6, 2, 1, 3, 2);
        planned("a,p5,p5,p5,p5,p5,p5;1/1", 32, 1, 5, 1, 1);
        planned("a,p5,p5,p5,p5,p5,p5;1/1", 63, 6, 0, 7, 2);
    }

    /** "MEAN: the fewest NIGHTS on the mean": by another way than the one that is best in any case. */
    private static void meanByItsOwnWay() {
        // By answer 4 three nights are enough, 13 for all five together; by answer 0 it takes four, but 12 together.
        planned("a,v3,v3,v2,v2,p1,v0;1/1", 47, 3, 4, 12, 5);
    }

    /** "Shares are told as upper and lower number (above 0) in least terms." */
    private static void sharesInLeastTerms() {
        int[][] want = {{1, 1}, {3, 2}, {2, 1}, {5, 2}, {3, 1}, {7, 2}};
        LieNights x = Bench.told("a,p5,p5,p5,p5,p5,p5;1/1");
        for (int many = 1; many <= 6; many++) {
            int set = (1 << many) - 1;
            Bench.due("mean of " + many, x.mean(set, 0), want[many - 1][0]);
            Bench.due("mean's lower of " + many, x.mean(set, 1), want[many - 1][1]);
        }
        StringBuilder text = new StringBuilder("a,p5");
        for (int many = 2; many <= 6; many++) {
            text.append(",p5");
            LieNights y = Bench.told(text + ";1/1");
            for (int n = 0; n < 10; n++) {
                int bound = Math.min(n, many);
                int common = 1;
                for (int d = 1; d <= many; d++) {
                    common = bound % d == 0 && many % d == 0 ? d : common;
                }
                Bench.due("odds of " + n + " of " + many, y.odds(n, 0), bound / common);
                Bench.due("odds' lower of " + n + " of " + many, y.odds(n, 1), many / common);
            }
        }
    }

    /** "PARTS ...: how many unlike things can be SHOWN by it, BOUND, too (if it is of the set)." */
    private static void partsWithBound() {
        LieNights x = Bench.told("a,p4,p4,p4,p5,p3,p9;1/1");
        Bench.due("0 and BOUND", x.parts(0, 3), 2);
        Bench.due("0 alone", x.parts(0, 2), 1);
        Bench.due("0 by two", x.parts(0, 6), 1);
        Bench.due("1 by both sides", x.parts(0, 24), 1);
        Bench.due("0, 1, 5", x.parts(0, 62), 3);
        Bench.due("0, 1, 5 and BOUND", x.parts(0, 63), 4);
        Bench.due("BOUND alone", x.parts(0, 1), 1);
        Bench.due("of the empty set nothing", x.parts(0, 0), 0);
        Bench.due("all unlike", Bench.told("a,p0,p1,p2,p3,p4,p5;1/1").parts(0, 63), 6);
    }

    /** "MONTHS ... (0 to 99)": "the fewest behind which he is STRONG by all their WEIGHTS together; NONE". */
    private static void monthsOfEachGrowth() {
        LieNights x = Bench.told("a,p0,p0;0/9/9/9/9/9");
        int[][] want = {{0, NONE, NONE}, {0, 9, 45}, {0, 5, 23}, {0, 3, 15}, {0, 3, 12}, {0, 2, 9}, {0, 2, 8}, {0, 2, 7},
            {0, 2, 6}, {0, 1, 5}};
        for (int v = 0; v < 10; v++) {
            x.grow(v);
            Bench.due("no pillars by " + v, x.months(0), want[v][0]);
            Bench.due("one of 9 by " + v, x.months(16), want[v][1]);
            Bench.due("all of 45 by " + v, x.months(31), want[v][2]);
        }
    }

    /** "DOWN ...: of several the least first one, then the least other one"; "NONE: there are no such two". */
    private static void downOfSeveral() {
        LieNights x = Bench.told("a,p0,p0;1/2/5/4/3/6");
        // 2 + 6, 5 + 3: the least first one. 7: 2 + 5, 4 + 3. 9: 5 + 4, 3 + 6. 8 and 7 once more behind them.
        int[] want = {NONE, NONE, NONE, NONE, NONE, 3, 2, 1, 4, 12, 24, 14, 14};
        for (int m = 0; m < want.length; m++) {
            Bench.due("down behind " + m, x.down(m), want[m]);
        }
        x = Bench.told("a,p0,p0;1/4/1/3/3/1");
        Bench.due("the least other one", x.down(7), 2);
        Bench.due("the least of three pairs", x.down(4), 12);
        Bench.due("the least first one", x.down(5), 1);
        Bench.due("one pair alone", x.down(6), 23);
        x = Bench.told("a,p0,p0;9/9/9/9/9/9");
        Bench.due("like weights are unlike pillars", x.down(2), 1);
        Bench.due("too heavy each", x.down(1), NONE);
        x = Bench.told("a,p0,p0;9/1");
        Bench.due("a pillar with itself is no two", x.down(99), NONE);
        x = Bench.told("a,p0,p0;9/9/1");
        Bench.due("just both", x.down(2), 1);
        Bench.due("one short of both", x.down(1), NONE);
        x.grow(5);
        Bench.due("just both by 5", x.down(2), 1);
        Bench.due("the last two", Bench.told("a,p0,p0;9/1/1/1/9/9").down(2), 34);
    }

    // ---- 4

    /** "READINGS, 8 at most, each numbered by how many there are ahead of it (the first one 0)". */
    private static void readingsAreNumbered() {
        LieNights x = Bench.told("a,p0,p0;1/1");
        for (int times = 0; times < 3; times++) {
            for (int r = 0; r < 8; r++) {
                Bench.due("its number", x.reading(r % 2, r), r);
            }
            Bench.due("FULL", x.reading(0, 0), -4);
            Bench.due("of how many are left", x.back(8 - times), times);
            Bench.due("the number of the next", x.reading(0, 0), times);
            Bench.due("all taken back", x.back(times + 1), 0);
        }
    }

    /** "The last k READINGS ... are taken back": the ones ahead of them stay. */
    private static void theLastAreTakenBack() {
        LieNights x = Bench.told("a,p0,p1,p2,p3,p4,p5;1/1");
        int[][] readings = {{0, 5}, {0, 5}, {1, 4}, {5, NONE}, {0, 0}, {4, 9}, {3, 2}, {2, 2}};
        int[] left = {63, 32, 32, 32, 32, 0, 0, 0, 0};
        for (int r = 0; r < 8; r++) {
            Bench.due("left by " + r, x.left(), left[r]);
            x.reading(readings[r][0], readings[r][1]);
        }
        for (int r = 8; r > 0; r--) {
            Bench.due("left by " + r, x.left(), left[r]);
            Bench.due("back", x.back(1), r - 1);
        }
        Bench.due("left by none", x.left(), 63);
        x.reading(4, 2);
        Bench.due("behind them others are read", x.left(), 4);
    }

    /** "by which there is an ANSWER by which, as the TRUTH, all READINGS are so": one for all of them together. */
    private static void oneTruthForAllReadings() {
        LieNights x = Bench.told("a,p2,p4,p6;1/1");
        x.reading(0, 2);
        Bench.due("by the first", x.left(), 2);
        x.reading(1, NONE);
        Bench.due("by both", x.left(), 2);
        x.reading(2, NONE);
        Bench.due("each of them would be so, but not all", x.left(), 0);
        Bench.due("no kind either", x.kinds(0) + x.kinds(1) + x.kinds(2), 0);
        Bench.due("no place either", x.places(0) + x.places(1) + x.places(2), 0);
        x.back(2);
        // At 0 answer 0 is 4 apart from 1, 6 from 2; at 2 and 6 from 1, at 4 and 8 from 2.
        Bench.due("places by another truth, too", x.places(0), 1 << 2 | 1 << 4 | 1 << 6 | 1 << 8);
        Bench.due("kinds by the only truth", x.kinds(0), 1 | 4);
        Bench.due("a kind that is the truth's does not matter", x.kinds(1), 7);
        Bench.due("places of the only truth", x.places(1), 1 << 0 | 1 << 4);
        Bench.due("places, as there is no other truth", x.places(2), 1023);
        Bench.due("what it is alone stays", Seen.of(x).unlike(Seen.of(readTwo())), "");
    }

    private static LieNights readTwo() {
        LieNights x = Bench.told("a,p2,p4,p6;1/1");
        x.reading(0, 2);
        return x;
    }

    /** "ODDS of n (whatever the READINGS are)"; "she asks as ASK tells of what can be". */
    private static void oddsByAsk() {
        odds("a,v1,p3,v1,s2;1/1", 0, 1, 2, 4, 4);
        odds("a,v0,s1,v2,v1;1/1", 0, 1, 3, 4, 4);
        odds("a,v2,s0,v1,v2;1/1", 0, 1, 2, 4, 4);
        odds("a,p5,p5;1/1", 0, 1, 2, 2, 2, 2, 2, 2, 2, 2);
        odds("a,p5,p5,p5,p5,p5,p5;1/1", 0, 1, 2, 3, 4, 5, 6, 6, 6, 6);
    }

    private static void odds(String text, int... bound) {
        LieNights x = Bench.told(text);
        for (int r = 0; r < 8; r++) {
            x.reading(0, r);
        }
        for (int n = 0; n < bound.length; n++) {
            int many = x.many(0);
            long upper = x.odds(n, 0);
            long lower = x.odds(n, 1);
            Bench.due("odds of " + n + " by " + text, upper * many, bound[n] * lower);
            Bench.due("the lower is above 0", lower > 0 ? 1 : 0, 1);
        }
        Bench.due("sure at last", x.odds(9, 0) * 10 + x.odds(9, 1), 11);
    }

    // ---- 5

    /** "LANE: 0 bytes, 1 shorts, 2 ints; what comes to a cell of it is cut to its LANE." */
    private static void cellsAreCut() {
        int[] numbers = {0, 1, -1, 127, 128, 129, -127, -128, -129, 255, 256, 257, -255, -256, -257, 32767, 32768, 32769,
            -32768, -32769, 65535, 65536, 65537, -65535, -65536, Integer.MAX_VALUE, Integer.MIN_VALUE};
        long[][] wide = {{256, 128}, {65536, 32768}, {1L << 32, 1L << 31}};
        for (int lane = 0; lane < 3; lane++) {
            LieNights x = new LieNights();
            x.sheet(lane, lane, 1);
            for (int number : numbers) {
                x.put(lane, 0, number);
                long want = Math.floorMod(number + wide[lane][1], wide[lane][0]) - wide[lane][1];
                Bench.due(number + " in lane " + lane, x.cell(lane, 0, lane), want);
            }
        }
    }

    /** "n cells of a SHEET from i on go to another one (perhaps the same) from j on, as they were". */
    private static void copiedAsTheyWere() {
        for (int i = 0; i <= 6; i++) {
            for (int j = 0; j <= 6; j++) {
                for (int n = 0; n <= 6 - Math.max(i, j); n++) {
                    copiedWithin(i, j, n);
                }
            }
        }
    }

    private static void copiedWithin(int i, int j, int n) {
        LieNights x = new LieNights();
        int[] row = {-1, 20, 300, 4000, 5, -600};
        Bench.row(x, 1, 1, row);
        Bench.row(x, 2, 1, 7, 7, 7, 7, 7, 7);
        int[] within = row.clone();
        int[] other = {7, 7, 7, 7, 7, 7};
        System.arraycopy(row, i, within, j, n);
        System.arraycopy(row, i, other, j, n);
        Bench.due("copy to another", x.copy(1, i, 2, j, n), n);
        Bench.due("copy within", x.copy(1, i, 1, j, n), n);
        for (int c = 0; c < 6; c++) {
            Bench.due("within, cell " + c, x.cell(1, c, 1), within[c]);
            Bench.due("other, cell " + c, x.cell(2, c, 1), other[c]);
        }
    }

    /** "A SHEET gets a new row": of 0s, whatever it had; a copy of a row is a row of its own. */
    private static void aNewRowIsOfZeros() {
        LieNights x = new LieNights();
        int[] sevens = new int[60];
        Arrays.fill(sevens, 7);
        Bench.row(x, 0, 0, sevens);
        for (int n : new int[] {0, 30, 60}) {
            x.sheet(0, 2, n);
            for (int i = 0; i < n; i++) {
                Bench.due("0 at first", x.cell(0, i, 2), 0);
            }
            Bench.due("no cell behind it", x.cell(0, n, 2), LOST);
        }
        Bench.row(x, 0, 2, 1, 2);
        Bench.row(x, 1, 2, 3, 4);
        x.copy(0, 0, 1, 0, 2);
        x.put(0, 0, 9);
        Bench.due("the other row stays", x.cell(1, 0, 2), 1);
        x.lose(0);
        Bench.due("the other row stays, too", x.cell(1, 1, 2), 2);
    }

    /** "TRACE (an int that wraps, 0 at first, becomes 31 times it and the number) as they begin". */
    private static void traceWraps() {
        LieNights x = Bench.told("a,p7,s5,v9;1/1");
        long exact = 0;
        boolean wrapped = false;
        for (int times = 0; times < 30; times++) {
            int[] numbers = times % 3 == 0 ? new int[] {1} : times % 3 == 1 ? new int[] {2, 1} : new int[] {3, 2, 1, 1};
            x.tell(times % 3);
            for (int number : numbers) {
                exact = (int) exact * 31L + number;
                wrapped |= exact != (int) exact;
            }
            Bench.due("trace", x.trace(), (int) exact);
            x.whisper(times % 3);
            exact = (int) exact * 31L + (times % 3 == 2 ? 5 : 4);
            wrapped |= exact != (int) exact;
            Bench.due("trace, whispered", x.trace(), (int) exact);
        }
        Bench.due("it wrapped", wrapped ? 1 : 0, 1);
    }

    /** TELLING at the least and the most PLACE, WHISPERED by the least and the most number. */
    private static void tellingAtItsLimits() {
        LieNights x = Bench.told("a,p0,s0,v0,p9,s9,v9;1/1");
        int[] told = {0, 100, 100, 9, 109, 118};
        int[] whispered = {0, 1, 40, 3, 4, 40};
        for (int a = 0; a < 6; a++) {
            Bench.due("told", x.tell(a), told[a]);
            Bench.due("whispered", x.whisper(a), whispered[a]);
        }
        Bench.due("the last is whispered by its number", Bench.told("a,v0,v0,v0,v0,v0,p0;1/1").whisper(5), 5);
    }

    /** "The FAULT of the latest call that names one: 0: it came to none, or was refused (0 ahead of any)." */
    private static void faultOfTheLatest() {
        Ways.Call[] none = {x -> x.secret(0, 0, 0, 21), x -> x.secret(0, 0, 0, 20), x -> x.nights(0, 1, 2, 0, 4, 0),
            x -> x.sheet(2, 0, 1), x -> x.put(1, 0, 1), x -> x.cell(1, 0, 2), x -> x.copy(1, 0, 1, 1, 2), x -> x.as(2, 2),
            x -> x.secret(4, 0, 0, 0), x -> x.nights(9, 1, 2, 0, 0, 0), x -> x.nights(0, 1, 2, 4, 1, 0),
            x -> x.sheet(0, 3, 0), x -> x.put(4, 0, 0), x -> x.cell(0, 0, 3), x -> x.copy(4, 0, 0, 0, 0), x -> x.as(9, 0)};
        Ways.Call[] left = {x -> x.ofAnswer(0, 0), x -> x.ofAnswer(9, 0), x -> x.move(0, 3), x -> x.move(0, 10),
            x -> x.grow(4), x -> x.grow(10), x -> x.shown(0, 1), x -> x.shown(9, 1), x -> x.worst(1), x -> x.worst(-1),
            x -> x.ask(0), x -> x.ask(-1), x -> x.mean(1, 0), x -> x.mean(0, 0), x -> x.parts(0, 0), x -> x.parts(0, -1),
            x -> x.months(0), x -> x.months(-1), x -> x.down(9), x -> x.down(-1), x -> x.reading(0, 1), x -> x.reading(0, 11),
            x -> x.back(1), x -> x.back(9), x -> x.left(), x -> x.kinds(0), x -> x.kinds(9), x -> x.places(0),
            x -> x.places(9), x -> x.odds(1, 0), x -> x.odds(10, 0), x -> x.lose(3), x -> x.lose(2), x -> x.lose(4),
            x -> x.tell(2), x -> x.tell(9), x -> x.whisper(2), x -> x.whisper(9), x -> x.trace(), x -> x.many(0),
            x -> x.many(4), x -> x.fault()};
        Ways.Call[] faults = {x -> x.put(3, 0, 0), x -> x.as(0, 2), x -> x.put(1, 60, 0), x -> x.sheet(0, 0, -1)};
        for (int fault = 1; fault <= 4; fault++) {
            for (Ways.Call call : none) {
                LieNights x = Ways.ready();
                Bench.due("a fault", faults[fault - 1].on(x), -10 - fault);
                Bench.due("it is told", x.fault(), fault);
                call.on(x);
                Bench.due("behind a call that came to none", x.fault(), 0);
            }
            for (Ways.Call call : left) {
                LieNights x = Ways.ready();
                Bench.due("a fault", faults[fault - 1].on(x), -10 - fault);
                call.on(x);
                Bench.due("behind a call that names none", x.fault(), fault);
            }
        }
        for (Ways.Call call : left) {
            LieNights x = new LieNights();
            call.on(x);
            Bench.due("ahead of any", x.fault(), 0);
        }
    }

    /** "An object is used for at most 512 calls": the 512th is answered as the first ones are. */
    private static void the512thCall() {
        LieNights x = Bench.told("a,p6,s9,p7;3/4/9");
        int calls = 2 + "a,p6,s9,p7;3/4/9".length();
        for (int times = 0; calls + 9 <= 506; times++) {
            x.move(times % 3, times % 10);
            x.grow(times % 10);
            x.reading(0, times % 11);
            x.tell(2);
            x.worst(7);
            x.odds(3, 0);
            x.sheet(times % 4, times % 3, times % 61);
            x.copy(times % 4, 0, times % 4, 0, times % 61);
            x.back(times % 3);
            calls += 9;
        }
        x.back(x.many(3));
        calls += 2;
        while (calls < 508) {
            x.trace();
            calls++;
        }
        Bench.due("the 509th call", x.move(1, 2) >= 0 ? 1 : 0, 1);
        Bench.due("the 510th call", x.reading(1, NONE), 0);
        Bench.due("the 511th call", x.left(), 2);
        Bench.due("the 512th call", x.ofAnswer(1, 1), 2);
    }

    public static void main(String[] args) {
        aNewObject();
        aRowWithoutCells();
        aTakenTextMakesAllAnew();
        aRefusedTextChangesNothing();
        aTextThatEndsTooSoon();
        codesThatAreCut();
        theSecretIsApartFromItsSheet();
        allGoesByThePlaceThatIs();
        shownByAllPlaces();
        boundByTheTruthAlone();
        behindTheBoundNight();
        nightsOfTheirCellsAlone();
        askedOfTheSetOrNot();
        meanByItsOwnWay();
        sharesInLeastTerms();
        partsWithBound();
        monthsOfEachGrowth();
        downOfSeveral();
        readingsAreNumbered();
        theLastAreTakenBack();
        oneTruthForAllReadings();
        oddsByAsk();
        cellsAreCut();
        copiedAsTheyWere();
        aNewRowIsOfZeros();
        traceWraps();
        tellingAtItsLimits();
        faultOfTheLatest();
        the512thCall();
        Bench.end("SentencesTest");
    }
}
