/** Objects that went a known way. Each call makes one more, so that two that went the same way can be compared. */
final class Ways {
    /** What a call does to an object, with its answer. */
    interface Call {
        long on(LieNights x);
    }

    /** How an object came to be as it is. */
    interface Way {
        LieNights made();
    }

    /** Four ANSWERS, GROWTH 3, three PILLARS: 21 codes. */
    static final String TEXT = "a,p2,s5,v9,p4;3/4/9/2";

    private Ways() {
    }

    static LieNights anew() {
        return new LieNights();
    }

    /** No secret, but sheets: 0 has the text as bytes, 1 a row of ints, 2 a row of shorts without cells, 3 nothing. */
    static LieNights sheetsAlone() {
        LieNights x = new LieNights();
        int[] codes = new int[TEXT.length()];
        for (int c = 0; c < codes.length; c++) {
            codes[c] = TEXT.charAt(c);
        }
        Bench.row(x, 0, 0, codes);
        Bench.row(x, 1, 2, 0, 3, 2, 1, 4);
        Bench.row(x, 2, 1);
        return x;
    }

    /** Sheet 0 has the text as bytes, 1 a row of ints with nights, 2 a row of shorts without cells, 3 nothing. */
    static LieNights unread() {
        LieNights x = Bench.told(TEXT);
        Bench.row(x, 1, 2, 0, 3, 2, 1, 4);
        Bench.row(x, 2, 1);
        x.tell(2);
        return x;
    }

    /** Three readings, by which answer 3 is the truth. */
    static LieNights ready() {
        LieNights x = unread();
        x.reading(0, 2);
        x.reading(1, 2);
        x.reading(2, 2);
        return x;
    }

    /** Eight readings, by which answer 3 is the truth. */
    static LieNights full() {
        LieNights x = ready();
        for (int r = 3; r < 8; r++) {
            x.reading(r % 2 == 0 ? 0 : 3, r % 2 == 0 ? 2 : LieNights.NONE);
        }
        return x;
    }

    /** Leaves a fault that is not the one to come, by a call that changes nothing: sheet 3 has nothing in all ways. */
    static int leaveAnotherFault(LieNights x, int than) {
        if (than == 4) {
            Bench.due("put, NULL", x.put(3, 0, 0), -11);
            return 1;
        }
        Bench.due("sheet, SIZE", x.sheet(3, 0, -1), -14);
        return 4;
    }
}
