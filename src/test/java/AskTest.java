/** Promises 8 to 13: worst, ask, mean, parts, months, down. */
public final class AskTest {
    private static final long LOST = Long.MIN_VALUE;

    private AskTest() {
    }

    private static void planned(LieNights x, int set, int worst, int ask, int upper, int lower) {
        Bench.due("worst of " + set, x.worst(set), worst);
        Bench.due("ask of " + set, x.ask(set), ask);
        Bench.due("mean's upper number of " + set, x.mean(set, 0), upper);
        Bench.due("mean's lower number of " + set, x.mean(set, 1), lower);
    }

    private static void allAlike() {
        // Nothing is learnt by any but that it is not the truth: one behind another.
        LieNights x = Bench.told("a,p5,p5,p5,p5,p5,p5;1/1");
        planned(x, 63, 6, 0, 7, 2);
        planned(x, 62, 5, 1, 3, 1);
        planned(x, 48, 2, 4, 3, 2);
        planned(x, 32, 1, 5, 1, 1);
        planned(x, 1, 1, 0, 1, 1);
    }

    private static void anAnswerOutsideTheSet() {
        // Answer 2 shows 4, 3, 6, 5 by the others, all unlike; a VAIN one leaves two of the others alike.
        LieNights x = Bench.told("a,v3,v4,p7,v1,v2;1/1");
        planned(x, 27, 2, 2, 2, 1);
        // Answers 0 and 1 are 1 apart: answer 0 is the least by which 2 nights are enough, of the set.
        planned(x, 3, 2, 0, 3, 2);
        // Answers 1 and 3 are told apart by answer 0, which is not of the set: it shows 0 and 1.
        planned(x, 10, 2, 0, 3, 2);
        // Answers 3 and 4 show 1 and 0 by answer 0.
        planned(x, 24, 2, 0, 3, 2);
    }

    private static void emptySet() {
        LieNights x = Bench.told("a,p1,p2;1/1");
        Bench.due("worst of none", x.worst(0), 0);
        Bench.due("ask of none", x.ask(0), -9);
        Bench.due("mean of none", x.mean(0, 0), LOST);
        Bench.due("mean of none", x.mean(0, 1), LOST);
    }

    private static void refusals() {
        LieNights x = new LieNights();
        Bench.due("worst, STATE", x.worst(-1), -3);
        Bench.due("ask, STATE", x.ask(64), -3);
        Bench.due("mean, STATE", x.mean(1, 0), LOST);
        Bench.due("parts, UNKNOWN", x.parts(0, -1), -1);
        Bench.due("months, STATE", x.months(-1), -3);
        Bench.due("down, STATE", x.down(-1), -3);
        Bench.text(x, "a,p1,p2,p3;1/1/1");
        int[] sets = {-1, 8, 16, Integer.MIN_VALUE, Integer.MAX_VALUE};
        for (int set : sets) {
            Bench.due("worst, OUTSIDE", x.worst(set), -2);
            Bench.due("ask, OUTSIDE", x.ask(set), -2);
            Bench.due("mean, OUTSIDE", x.mean(set, 0), LOST);
            Bench.due("parts, OUTSIDE", x.parts(0, set), -2);
            Bench.due("months, OUTSIDE", x.months(set), -2);
        }
        Bench.due("months of a pillar too many", x.months(4), -2);
        Bench.due("mean, which", x.mean(1, 2), LOST);
        Bench.due("mean, which below", x.mean(1, -1), LOST);
        Bench.due("parts, UNKNOWN goes ahead", x.parts(3, 8), -1);
        Bench.due("parts, UNKNOWN below", x.parts(-1, 7), -1);
        Bench.due("down, OUTSIDE", x.down(100), -2);
        Bench.due("down, OUTSIDE below", x.down(-1), -2);
    }

    private static void parts() {
        LieNights x = Bench.told("a,p2,s5,v9,p4,s4;3/4");
        int[][] want = {{4, 3, 2}, {4, 3, 2}, {3, 3, 2}, {5, 3, 2}, {5, 3, 2}};
        for (int a = 0; a < 5; a++) {
            Bench.due("parts of all", x.parts(a, 31), want[a][0]);
            Bench.due("parts of 0 to 2", x.parts(a, 7), want[a][1]);
            Bench.due("parts of 2 and 4", x.parts(a, 20), want[a][2]);
            Bench.due("parts of none", x.parts(a, 0), 0);
            Bench.due("parts of it alone", x.parts(a, 1 << a), 1);
        }
        // By answer 2 the others but 0 show 2.
        Bench.due("parts alike", x.parts(2, 26), 1);
    }

    private static void months() {
        LieNights x = Bench.told("a,p2,p5;3/4/9/2/7");
        int[] want = {0, 2, 3, 5, 1, 2, 4, 5, 3, 4, 6, 7, 3, 5, 6, 8};
        for (int set = 0; set < want.length; set++) {
            Bench.due("months of " + set, x.months(set), want[set]);
        }
        x.grow(0);
        Bench.due("no growth, no pillars", x.months(0), 0);
        Bench.due("no growth", x.months(4), -9);
        Bench.text(x, "a,p2,p5;1/9/9/9/9/9");
        Bench.due("the most", x.months(31), 45);
        x.grow(9);
        Bench.due("just enough", x.months(31), 5);
    }

    private static void down() {
        LieNights x = Bench.told("a,p2,p5;1/3/5/3/1/5");
        int[] want = {-9, -9, -9, -9, 3, 3, 2, 2, 1, 1, 14, 14};
        for (int m = 0; m < want.length; m++) {
            Bench.due("down behind " + m, x.down(m), want[m]);
        }
        Bench.due("down behind the most", x.down(99), 14);
        Bench.text(x, "a,p2,p5;9/1");
        Bench.due("one pillar alone", x.down(99), -9);
        Bench.text(x, "a,p2,p5;4/2/2/2");
        Bench.due("of like pairs the least", x.down(1), 1);
        Bench.due("the strength is growth times months", x.down(0), -9);
        x.grow(0);
        Bench.due("no growth", x.down(99), -9);
        Bench.text(x, "a,p2,p5;2/1/1/9/8/8");
        Bench.due("the heaviest pair", x.down(8), 34);
        Bench.due("a pair of the first, too", x.down(5), 2);
        Bench.due("the least other one", x.down(9), 23);
    }

    public static void main(String[] args) {
        allAlike();
        anAnswerOutsideTheSet();
        emptySet();
        refusals();
        parts();
        months();
        down();
        Bench.end("AskTest");
    }
}
