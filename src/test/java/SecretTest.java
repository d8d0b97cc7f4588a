/** Promises 2 to 6: secret, ofAnswer, move, grow, shown. */
public final class SecretTest {
    private static final String WHOLE = "a,p2,s5,v9;3/4/9";

    private SecretTest() {
    }

    private static void textIsTaken() {
        LieNights x = new LieNights();
        Bench.due("secret", Bench.text(x, WHOLE), 3);
        Bench.due("answers", x.many(0), 3);
        Bench.due("pillars", x.many(1), 2);
        Bench.due("growth", x.many(2), 3);
        int[][] want = {{0, 2}, {1, 5}, {2, 9}};
        for (int a = 0; a < want.length; a++) {
            Bench.due("kind of " + a, x.ofAnswer(a, 0), want[a][0]);
            Bench.due("place of " + a, x.ofAnswer(a, 1), want[a][1]);
        }
        Bench.due("most of all", Bench.text(x, "a,p0,s1,v2,p3,s4,v9;0/1/2/3/4/9"), 6);
        Bench.due("five pillars", x.many(1), 5);
        Bench.due("growth 0", x.many(2), 0);
        Bench.due("least of all", Bench.text(x, "a,v0,v0;9/1"), 2);
    }

    private static void firstFault(String text, int place) {
        LieNights x = Bench.told("a,p1,p2;5/7");
        x.reading(0, 1);
        Bench.due("secret of " + text, Bench.text(x, text), -100 - place);
        Bench.due("it is no fault of the machine's", x.fault(), 0);
        Bench.due("the answers stay", x.many(0) * 10 + x.many(1), 21);
        Bench.due("the growth stays", x.many(2), 5);
        Bench.due("the readings stay", x.many(3), 1);
        Bench.due("the places stay", x.ofAnswer(0, 1) * 10 + x.ofAnswer(1, 1), 12);
        Bench.due("the weights stay", x.months(1), 2);
    }

    private static void firstFaultsAreTold() {
        for (int n = 0; n < WHOLE.length(); n++) {
            // With the weight of its first pillar the text is whole as well.
            if (n != 14) {
                firstFault(WHOLE.substring(0, n), n);
            }
        }
        for (int p = 0; p < WHOLE.length(); p++) {
            firstFault(WHOLE.substring(0, p) + "x" + WHOLE.substring(p + 1), p);
        }
        firstFault("a,p3;3/4", 4);
        firstFault("a,p3,s5,;3/4", 8);
        firstFault("a,p3,s5;,/4", 8);
        firstFault("a,P3,s5;3/4", 2);
        firstFault("a,p3,s5;3/0", 10);
        firstFault("a,p3,s5;3;4", 9);
        firstFault("a,p3,s5;34/1", 9);
        firstFault("a,p3,s5;3/4,", 11);
        firstFault("a,p3,s5;3/44", 11);
        firstFault("a,p0,p0,p0,p0,p0,p0,p0;1/1", 19);
        firstFault("a,p0,p0;1/1/2/3/4/5/6", 19);
        firstFault("a,p:,p0;1/1", 3);
        firstFault("a,p/,p0;1/1", 3);
        firstFault("a,p0,p0;1/:", 10);
    }

    private static void textIsCellsOfASheet() {
        LieNights x = new LieNights();
        Bench.row(x, 2, 1, 7, 'a', ',', 'p', '3', ',', 's', '5', ';', '2', '/', '4', 8);
        Bench.due("from a place on", x.secret(2, 1, 1, 11), 2);
        Bench.due("a place of the text is told", x.secret(2, 1, 1, 12), -111);
        Bench.due("the code ahead of it", x.secret(2, 1, 0, 5), -100);
        Bench.due("no codes", x.secret(2, 1, 13, 0), -100);
        Bench.row(x, 3, 2, 'a', 65536 + ',');
        Bench.due("codes are whole numbers", x.secret(3, 2, 0, 2), -101);
        Bench.row(x, 3, 2, 'a', -1, 0);
        Bench.due("no code below 0", x.secret(3, 2, 0, 3), -101);
    }

    private static void refusalsAndFaults() {
        LieNights x = new LieNights();
        Bench.row(x, 0, 0, 'a', ',', 'p', '3', ',', 's', '5', ';', '2', '/', '4');
        fails(x, x.secret(4, 3, -1, -1), -1, 0);
        fails(x, x.secret(-1, 0, 0, 11), -1, 0);
        fails(x, x.secret(0, 3, -1, -1), -2, 0);
        fails(x, x.secret(0, -1, 0, 11), -2, 0);
        fails(x, x.secret(1, 3, 0, 11), -2, 0);
        fails(x, x.secret(0, 1, -1, -1), -12, 2);
        fails(x, x.secret(0, 2, 0, 11), -12, 2);
        fails(x, x.secret(1, 2, -1, -1), -11, 1);
        fails(x, x.secret(0, 0, -1, -1), -14, 4);
        fails(x, x.secret(0, 0, -1, 2), -13, 3);
        fails(x, x.secret(0, 0, 0, 12), -13, 3);
        fails(x, x.secret(0, 0, 1, 11), -13, 3);
        fails(x, x.secret(0, 0, 12, 0), -13, 3);
        fails(x, x.secret(0, 0, -1, 0), -13, 3);
        fails(x, x.secret(0, 0, 1, Integer.MAX_VALUE), -13, 3);
        fails(x, x.secret(0, 0, Integer.MAX_VALUE, 1), -13, 3);
        fails(x, x.secret(0, 0, 11, 0), -100, 0);
        Bench.due("nothing was taken", x.many(0), 0);
        x.cell(0, 0, 1);
        fails(x, x.secret(0, 0, 0, 11), 2, 0);
    }

    private static void fails(LieNights x, long got, long want, int fault) {
        Bench.due("the call", got, want);
        Bench.due("its fault", x.fault(), fault);
    }

    private static void takenTextMakesAllAnew() {
        LieNights x = Bench.told("a,p1,s2,v3;5/7/8/9");
        x.reading(0, 1);
        x.move(0, 9);
        x.tell(0);
        Bench.due("again", Bench.text(x, "a,v4,p4;1/2"), 2);
        Bench.due("no readings", x.many(3), 0);
        Bench.due("fewer answers", x.ofAnswer(2, 0), -1);
        Bench.due("fewer pillars", x.months(2), -2);
        Bench.due("its growth", x.many(2), 1);
        Bench.due("its kind", x.ofAnswer(0, 0), 2);
        Bench.due("its place", x.ofAnswer(0, 1), 4);
        Bench.due("the trace stays", x.trace(), 1);
        Bench.due("the sheets stay", x.cell(0, 0, 0), 'a');
        Bench.due("ask of what is now", x.ask(3), 0);
        Bench.due("worst of what is now", x.worst(3), 2);
    }

    private static void ofAnswer() {
        LieNights x = Bench.told(WHOLE);
        Bench.due("UNKNOWN", x.ofAnswer(3, 0), -1);
        Bench.due("UNKNOWN below", x.ofAnswer(-1, 0), -1);
        Bench.due("UNKNOWN goes ahead", x.ofAnswer(3, 2), -1);
        Bench.due("OUTSIDE", x.ofAnswer(0, 2), -2);
        Bench.due("OUTSIDE below", x.ofAnswer(0, -1), -2);
    }

    private static void move() {
        LieNights x = Bench.told(WHOLE);
        Bench.due("what it was", x.move(1, 0), 5);
        Bench.due("what it is", x.ofAnswer(1, 1), 0);
        Bench.due("what it was then", x.move(1, 9), 0);
        Bench.due("the others stay", x.ofAnswer(0, 1), 2);
        Bench.due("UNKNOWN", x.move(3, 0), -1);
        Bench.due("UNKNOWN goes ahead", x.move(-1, 10), -1);
        Bench.due("OUTSIDE", x.move(1, 10), -2);
        Bench.due("OUTSIDE below", x.move(1, -1), -2);
        Bench.due("refusals change nothing", x.ofAnswer(1, 1), 9);
        Bench.due("shown from there", x.shown(0, 1), 7);
    }

    private static void planFollowsAMove() {
        LieNights x = Bench.told("a,p1,p1,p1;5/7");
        Bench.due("worst of like ones", x.worst(7), 3);
        x.move(2, 4);
        Bench.due("worst behind a move", x.worst(7), 2);
        Bench.due("mean behind a move", x.mean(7, 0) * 10 + x.mean(7, 1), 53);
        x.move(2, 1);
        Bench.due("odds behind a move", x.odds(2, 0) * 10 + x.odds(2, 1), 23);
        x.move(0, 2);
        Bench.due("ask behind a move", x.ask(6), 1);
    }

    private static void grow() {
        LieNights x = new LieNights();
        Bench.due("STATE", x.grow(0), -3);
        Bench.due("OUTSIDE goes ahead", x.grow(10), -2);
        Bench.due("OUTSIDE below", x.grow(-1), -2);
        Bench.text(x, WHOLE);
        Bench.due("what it was", x.grow(9), 3);
        Bench.due("what it is", x.many(2), 9);
        Bench.due("OUTSIDE", x.grow(10), -2);
        Bench.due("what it was then", x.grow(0), 9);
    }

    private static void shown() {
        LieNights x = Bench.told("a,p2,s5,v9,v2;3/4");
        int[][] want = {{-9, 3, 7, 0}, {4, -9, 5, 4}, {3, 2, -9, 3}, {0, 1, 3, -9}};
        for (int a = 0; a < 4; a++) {
            for (int t = 0; t < 4; t++) {
                Bench.due("shown by " + a + " if " + t, x.shown(a, t), want[a][t]);
            }
        }
        Bench.due("UNKNOWN x", x.shown(4, 0), -1);
        Bench.due("UNKNOWN t", x.shown(0, 4), -1);
        Bench.due("UNKNOWN below", x.shown(0, -1), -1);
        Bench.due("UNKNOWN both", x.shown(-1, -1), -1);
        Bench.text(x, "a,s0,s9;1/1");
        Bench.due("the most that is shown", x.shown(0, 1), 10);
    }

    public static void main(String[] args) {
        textIsTaken();
        firstFaultsAreTold();
        textIsCellsOfASheet();
        refusalsAndFaults();
        takenTextMakesAllAnew();
        ofAnswer();
        move();
        planFollowsAMove();
        grow();
        shown();
        Bench.end("SecretTest");
    }
}
