/** What the tests share: a tally of the answers, and rows and texts that are laid on a sheet. */
final class Bench {
    private static int right = 0;
    private static int wrong = 0;

    private Bench() {
    }

    static void due(String call, long got, long want) {
        if (got == want) {
            right++;
            return;
        }
        wrong++;
        System.out.println(call + " answered " + got + ", due is " + want);
    }

    static void due(String call, String got, String want) {
        due(call + " told '" + got + "', due is '" + want + "';", got.equals(want) ? 1 : 0, 1);
    }

    /** Ends the program: with exit code 1, if an answer was not as due or there was none at all. */
    static void end(String name) {
        System.out.println(name + ": " + right + " answers as due, " + wrong + " not");
        System.exit(wrong == 0 && right > 0 ? 0 : 1);
    }

    static void row(LieNights x, int sheet, int lane, int... numbers) {
        due("sheet for a row", x.sheet(sheet, lane, numbers.length), 1);
        for (int i = 0; i < numbers.length; i++) {
            due("put of a row", x.put(sheet, i, numbers[i]), 1);
        }
    }

    static int text(LieNights x, String text) {
        int[] codes = new int[text.length()];
        for (int i = 0; i < codes.length; i++) {
            codes[i] = text.charAt(i);
        }
        row(x, 0, 0, codes);
        return x.secret(0, 0, 0, codes.length);
    }

    static LieNights told(String text) {
        LieNights x = new LieNights();
        if (text(x, text) < 0) {
            due("secret of " + text, -1, 1);
        }
        return x;
    }
}
