/** Promise 7: nights. */
public final class NightsTest {
    private NightsTest() {
    }

    /** PLACES 2, 5, 9, 4, 4: what is shown by each, if another is the truth, stands in the tests of shown. */
    private static LieNights five() {
        return Bench.told("a,p2,s5,v9,p4,s4;3/4/9/2/7");
    }

    private static void may() {
        LieNights x = five();
        Bench.row(x, 1, 2, 0, 3, 2, 0);
        int[] byNone = {31, 31, 31, 31, 31};
        int[] byFirst = {1, 2, 4, 24, 24};
        int[] byAll = {1, 2, 4, 8, 16};
        for (int t = 0; t < 5; t++) {
            Bench.due("no night, " + t, x.nights(t, 1, 2, 0, 0, 0), byNone[t]);
            Bench.due("one night, " + t, x.nights(t, 1, 2, 0, 1, 0), byFirst[t]);
            Bench.due("all nights, " + t, x.nights(t, 1, 2, 0, 4, 0), byAll[t]);
        }
        // By answer 2 the others show 3, 2, 2, 2: answers 1, 3 and 4 alike.
        Bench.due("from a place on", x.nights(3, 1, 2, 2, 1, 0), 26);
        Bench.due("two of them", x.nights(3, 1, 2, 2, 2, 0), 24);
    }

    private static void boundAndLast() {
        LieNights x = five();
        Bench.row(x, 1, 0, 1, 4, 1, 0);
        int[] bound = {3, 0, -9, -9, 1};
        int[] last = {-9, -9, 7, 2, -9};
        for (int t = 0; t < 5; t++) {
            Bench.due("bound on, " + t, x.nights(t, 1, 0, 0, 4, 1), bound[t]);
            Bench.due("the last shown, " + t, x.nights(t, 1, 0, 0, 4, 2), last[t]);
            Bench.due("no night, bound " + t, x.nights(t, 1, 0, 4, 0, 1), -9);
            Bench.due("no night, shown " + t, x.nights(t, 1, 0, 4, 0, 2), -9);
        }
        Bench.due("bound on the night of the row's part", x.nights(4, 1, 0, 1, 3, 1), 0);
        Bench.due("the last of a part", x.nights(0, 1, 0, 0, 2, 2), 3);
        Bench.row(x, 1, 0, 2, 1, 3);
        Bench.due("what comes behind does not matter", x.nights(2, 1, 0, 0, 3, 0), 4);
        Bench.row(x, 1, 1, 3, 3, 3, 3, 3, 3, 3, 3, 3, 3, 3, 3, 3, 3, 3, 3, 3, 3, 3, 0);
        Bench.due("twenty nights", x.nights(0, 1, 1, 0, 20, 1), 19);
    }

    private static void refuses(LieNights x, long got, long want, int fault) {
        Bench.due("nights refused", got, want);
        Bench.due("its fault", x.fault(), fault);
    }

    private static void refusalsAndFaults() {
        LieNights x = five();
        Bench.row(x, 1, 2, 1, 2, 5, -1, 3);
        refuses(x, x.nights(5, 1, 3, 9, 21, 3), -1, 0);
        refuses(x, x.nights(-1, 1, 2, 0, 1, 0), -1, 0);
        refuses(x, x.nights(0, 4, 3, 0, 1, 0), -1, 0);
        refuses(x, x.nights(0, -1, 2, 0, 1, 0), -1, 0);
        refuses(x, x.nights(0, 1, 3, 9, 1, 0), -2, 0);
        refuses(x, x.nights(0, 1, -1, 0, 1, 0), -2, 0);
        refuses(x, x.nights(0, 1, 2, 0, 21, 0), -2, 0);
        refuses(x, x.nights(0, 1, 2, 0, -1, 0), -2, 0);
        refuses(x, x.nights(0, 1, 2, 0, 1, 3), -2, 0);
        refuses(x, x.nights(0, 1, 2, 0, 1, -1), -2, 0);
        refuses(x, x.nights(0, 2, 2, 0, 1, 3), -2, 0);
        refuses(x, x.nights(0, 1, 0, 9, 1, 0), -12, 2);
        refuses(x, x.nights(0, 2, 0, 9, 1, 0), -11, 1);
        refuses(x, x.nights(0, 1, 2, 0, 6, 0), -13, 3);
        refuses(x, x.nights(0, 1, 2, -1, 1, 0), -13, 3);
        refuses(x, x.nights(0, 1, 2, 6, 0, 0), -13, 3);
        refuses(x, x.nights(0, 1, 2, Integer.MAX_VALUE, 20, 0), -13, 3);
        refuses(x, x.nights(0, 1, 2, 0, 3, 0), -1, 0);
        refuses(x, x.nights(0, 1, 2, 3, 2, 0), -1, 0);
        // A cell behind the night on which he is bound is looked at, too.
        refuses(x, x.nights(1, 1, 2, 0, 3, 1), -1, 0);
        refuses(x, x.nights(1, 1, 2, 5, 0, 0), 31, 0);
        refuses(new LieNights(), new LieNights().nights(0, 0, 0, 0, 0, 0), -1, 0);
    }

    public static void main(String[] args) {
        may();
        boundAndLast();
        refusalsAndFaults();
        Bench.end("NightsTest");
    }
}
