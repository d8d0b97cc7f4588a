import java.math.BigInteger;
import java.util.ArrayList;
import java.util.HashMap;
import java.util.List;
import java.util.Map;
import java.util.Set;
import java.util.TreeSet;
import java.util.regex.Pattern;

/**
 * The document told a second time, by other means: bodies that are inherited, arrays of the machine's own lanes and
 * the exceptions that the machine throws, a pattern for the TEXT, and search by plain recursion.
 */
final class Model {
    private static final int UNKNOWN = -1, OUTSIDE = -2, STATE = -3, FULL = -4, NONE = -9;
    private static final long LOST = Long.MIN_VALUE;

    private interface Whispering {
        int number();

        Model model();

        default int whispered() {
            model().begin(4);
            return number();
        }
    }

    private static class Plain implements Whispering {
        final Model model;
        final int number;
        int place;

        Plain(Model model, int number, int place) {
            this.model = model;
            this.number = number;
            this.place = place;
        }

        public int number() {
            return number;
        }

        public Model model() {
            return model;
        }

        int shows(int apart) {
            return apart;
        }

        int told() {
            return plainBody();
        }

        final int plainBody() {
            model.begin(1);
            return place;
        }
    }

    private static class Sly extends Plain {
        Sly(Model model, int number, int place) {
            super(model, number, place);
        }

        int shows(int apart) {
            return super.shows(apart) + 1;
        }

        int told() {
            model.begin(2);
            return super.told() + 100;
        }
    }

    private static final class Vain extends Sly {
        Vain(Model model, int number, int place) {
            super(model, number, place);
        }

        int shows(int apart) {
            return apart >> 1;
        }

        int told() {
            model.begin(3);
            int sly = super.told();
            return sly + plainBody();
        }

        public int whispered() {
            model.begin(5);
            return 40;
        }
    }

    private List<Plain> answers = new ArrayList<>();
    private List<Integer> weights = new ArrayList<>();
    private int growth;
    private final List<int[]> readings = new ArrayList<>();
    private final Object[] sheets = new Object[4];
    private int trace;
    private int fault;

    private void begin(int number) {
        trace = trace * 31 + number;
    }

    private Plain made(int kind, int number, int place) {
        return kind == 0 ? new Plain(this, number, place) : kind == 1 ? new Sly(this, number, place) : new Vain(this, number, place);
    }

    private static int kindOf(Plain answer) {
        return answer instanceof Vain ? 2 : answer instanceof Sly ? 1 : 0;
    }

    private boolean none() {
        return answers.isEmpty();
    }

    private boolean answer(int x) {
        return 0 <= x && x < answers.size();
    }

    private static boolean sheetNumber(int k) {
        return 0 <= k && k <= 3;
    }

    private static boolean laneNumber(int lane) {
        return 0 <= lane && lane <= 2;
    }

    private int fell(int which) {
        fault = which;
        return -10 - which;
    }

    private static int length(Object row) {
        return java.lang.reflect.Array.getLength(row);
    }

    /** What the machine throws as a row is taken, told as a fault. */
    private static int taking(Object row, int lane, int i, int n) {
        try {
            if (lane == 0) {
                byte[] cells = (byte[]) row;
                System.arraycopy(cells, i, new byte[n], 0, n);
            } else if (lane == 1) {
                short[] cells = (short[]) row;
                System.arraycopy(cells, i, new short[n], 0, n);
            } else {
                int[] cells = (int[]) row;
                System.arraycopy(cells, i, new int[n], 0, n);
            }
            return 0;
        } catch (ClassCastException e) {
            return 2;
        } catch (NullPointerException e) {
            return 1;
        } catch (NegativeArraySizeException e) {
            return 4;
        } catch (IndexOutOfBoundsException e) {
            return 3;
        }
    }

    private static int[] cells(Object row, int i, int n) {
        int[] cells = new int[n];
        for (int c = 0; c < n; c++) {
            cells[c] = ((Number) java.lang.reflect.Array.get(row, i + c)).intValue();
        }
        return cells;
    }

    int secret(int sheet, int lane, int i, int n) {
        fault = 0;
        if (!sheetNumber(sheet)) return UNKNOWN;
        if (!laneNumber(lane)) return OUTSIDE;
        Object row = sheets[sheet];
        // A sheet that has nothing comes to NULL ahead of a length below 0: the model's copy makes the length first.
        int found = row == null ? 1 : taking(row, lane, i, n > 60 ? 61 : n);
        if (found != 0) return fell(found);
        StringBuilder text = new StringBuilder();
        for (int code : cells(row, i, n)) text.append(code >= 0 && code < 128 ? (char) code : '?');
        for (int p = 0; p <= n; p++) {
            if (!mayGoOn(text.substring(0, p))) return -100 - (p - 1);
        }
        if (!Pattern.matches("a(,[psv][0-9]){2,6};[0-9](/[1-9]){1,5}", text)) return -100 - n;
        take(text.toString());
        return answers.size();
    }

    /** Some TEXT begins with these codes: one that begins so is among these endings of it. */
    private static boolean mayGoOn(String begun) {
        for (String ending : endings()) {
            if (Pattern.matches("a(,[psv][0-9]){2,6};[0-9](/[1-9]){1,5}", begun + ending)) return true;
        }
        return false;
    }

    private static List<String> endings() {
        List<String> all = new ArrayList<>();
        String whole = "a,p0,p0;0/1";
        for (int p = 0; p <= whole.length(); p++) all.add(whole.substring(p));
        return all;
    }

    private void take(String text) {
        answers = new ArrayList<>();
        weights = new ArrayList<>();
        readings.clear();
        String[] halves = text.split(";");
        String[] told = halves[0].split(",");
        for (int a = 1; a < told.length; a++) {
            answers.add(made("psv".indexOf(told[a].charAt(0)), a - 1, told[a].charAt(1) - '0'));
        }
        String[] hall = halves[1].split("/");
        growth = Integer.parseInt(hall[0]);
        for (int p = 1; p < hall.length; p++) weights.add(Integer.parseInt(hall[p]));
    }

    int ofAnswer(int x, int what) {
        if (!answer(x)) return UNKNOWN;
        if (what != 0 && what != 1) return OUTSIDE;
        return what == 0 ? kindOf(answers.get(x)) : answers.get(x).place;
    }

    int move(int x, int v) {
        if (!answer(x)) return UNKNOWN;
        if (v < 0 || v > 9) return OUTSIDE;
        int was = answers.get(x).place;
        answers.get(x).place = v;
        return was;
    }

    int grow(int v) {
        if (v < 0 || v > 9) return OUTSIDE;
        if (none()) return STATE;
        int was = growth;
        growth = v;
        return was;
    }

    private static int showing(List<Plain> of, int x, int t) {
        return x == t ? NONE : of.get(x).shows(Math.max(of.get(x).place, of.get(t).place) - Math.min(of.get(x).place, of.get(t).place));
    }

    int shown(int x, int t) {
        return answer(x) && answer(t) ? showing(answers, x, t) : UNKNOWN;
    }

    int nights(int t, int sheet, int lane, int i, int n, int what) {
        fault = 0;
        if (!answer(t) || !sheetNumber(sheet)) return UNKNOWN;
        if (!laneNumber(lane) || n < 0 || n > 20 || what < 0 || what > 2) return OUTSIDE;
        int found = taking(sheets[sheet], lane, i, n);
        if (found != 0) return fell(found);
        int[] row = cells(sheets[sheet], i, n);
        for (int x : row) if (!answer(x)) return UNKNOWN;
        List<Integer> told = showings(row, t);
        boolean bound = told.contains(NONE);
        if (what == 1) return bound ? told.size() - 1 : NONE;
        if (what == 2) return bound || told.isEmpty() ? NONE : told.get(told.size() - 1);
        int may = 0;
        for (int u = 0; u < answers.size(); u++) {
            if (showings(row, u).equals(told)) may += 1 << u;
        }
        return may;
    }

    private List<Integer> showings(int[] row, int t) {
        List<Integer> told = new ArrayList<>();
        for (int x : row) {
            if (!told.contains(NONE)) told.add(showing(answers, x, t));
        }
        return told;
    }

    private List<Integer> members(int set) {
        List<Integer> of = new ArrayList<>();
        for (int t = 0; t < answers.size(); t++) if ((set >> t) % 2 == 1) of.add(t);
        return of;
    }

    private Map<Integer, List<Integer>> split(List<Integer> set, int x) {
        Map<Integer, List<Integer>> parts = new HashMap<>();
        for (int t : set) parts.computeIfAbsent(showing(answers, x, t), k -> new ArrayList<>()).add(t);
        return parts;
    }

    /** The fewest nights of a way that begins with x; a way that learns nothing never ends. */
    private int worstBy(List<Integer> set, int x) {
        int worst = 0;
        for (Map.Entry<Integer, List<Integer>> part : split(set, x).entrySet()) {
            if (part.getKey() == NONE) continue;
            if (part.getValue().size() == set.size()) return 99;
            worst = Math.max(worst, worstOf(part.getValue()));
        }
        return worst + 1;
    }

    private int worstOf(List<Integer> set) {
        if (set.isEmpty()) return 0;
        int best = 99;
        for (int x = 0; x < answers.size(); x++) best = Math.min(best, worstBy(set, x));
        return best;
    }

    private int askOf(List<Integer> set) {
        for (int x = 0; x < answers.size(); x++) {
            if (!set.isEmpty() && worstBy(set, x) == worstOf(set)) return x;
        }
        return NONE;
    }

    private int nightsOf(List<Integer> set) {
        int best = 999;
        for (int x = 0; x < answers.size(); x++) {
            int sum = set.size();
            boolean idle = false;
            for (Map.Entry<Integer, List<Integer>> part : split(set, x).entrySet()) {
                if (part.getKey() == NONE) continue;
                idle |= part.getValue().size() == set.size();
                sum += idle ? 0 : nightsOf(part.getValue());
            }
            if (!idle) best = Math.min(best, sum);
        }
        return best;
    }

    private boolean set(int set, int many) {
        return set >= 0 && set < Math.pow(2, many);
    }

    int worst(int set) {
        return none() ? STATE : !set(set, answers.size()) ? OUTSIDE : worstOf(members(set));
    }

    int ask(int set) {
        return none() ? STATE : !set(set, answers.size()) ? OUTSIDE : askOf(members(set));
    }

    private static long share(long upper, long lower, int which) {
        long common = BigInteger.valueOf(upper).gcd(BigInteger.valueOf(lower)).longValue();
        return (which == 0 ? upper : lower) / common;
    }

    long mean(int set, int which) {
        if (none() || !set(set, answers.size()) || set == 0 || which < 0 || which > 1) return LOST;
        return share(nightsOf(members(set)), members(set).size(), which);
    }

    int parts(int x, int set) {
        if (!answer(x)) return UNKNOWN;
        if (!set(set, answers.size())) return OUTSIDE;
        return split(members(set), x).size();
    }

    int months(int set) {
        if (none()) return STATE;
        if (!set(set, weights.size())) return OUTSIDE;
        int weight = 0;
        for (int p = 0; p < weights.size(); p++) weight += (set >> p) % 2 * weights.get(p);
        if (weight == 0) return 0;
        return growth == 0 ? NONE : (weight + growth - 1) / growth;
    }

    int down(int m) {
        if (none()) return STATE;
        if (m < 0 || m > 99) return OUTSIDE;
        for (int together = growth * m; together > 0; together--) {
            for (int pair = 0; pair < 100; pair++) {
                int p = pair / 10;
                int q = pair % 10;
                if (p < q && q < weights.size() && weights.get(p) + weights.get(q) == together) return pair;
            }
        }
        return NONE;
    }

    int reading(int x, int v) {
        if (!answer(x)) return UNKNOWN;
        if (v != NONE && (v < 0 || v > 10)) return OUTSIDE;
        if (readings.size() == 8) return FULL;
        readings.add(new int[] {x, v});
        return readings.size() - 1;
    }

    int back(int k) {
        if (k < 0 || k > readings.size()) return OUTSIDE;
        for (int r = 0; r < k; r++) readings.remove(readings.size() - 1);
        return readings.size();
    }

    private int truths(List<Plain> of) {
        int set = 0;
        for (int t = 0; t < of.size(); t++) {
            boolean so = true;
            for (int[] r : readings) so &= showing(of, r[0], t) == r[1];
            if (so) set += 1 << t;
        }
        return set;
    }

    int left() {
        return none() ? STATE : truths(answers);
    }

    private boolean mayBe(int x, int kind, int place) {
        List<Plain> other = new ArrayList<>(answers);
        other.set(x, made(kind, x, place));
        return truths(other) > 0;
    }

    int kinds(int x) {
        if (!answer(x)) return UNKNOWN;
        int set = 0;
        for (int kind = 0; kind < 3; kind++) if (mayBe(x, kind, answers.get(x).place)) set += 1 << kind;
        return set;
    }

    int places(int x) {
        if (!answer(x)) return UNKNOWN;
        int set = 0;
        for (int place = 0; place < 10; place++) if (mayBe(x, kindOf(answers.get(x)), place)) set += 1 << place;
        return set;
    }

    long odds(int n, int which) {
        if (none() || n < 0 || n > 9 || which < 0 || which > 1) return LOST;
        Set<Integer> bound = new TreeSet<>();
        walk(members((1 << answers.size()) - 1), n, bound);
        return share(bound.size(), answers.size(), which);
    }

    private void walk(List<Integer> set, int n, Set<Integer> bound) {
        if (n == 0) return;
        for (Map.Entry<Integer, List<Integer>> part : split(set, askOf(set)).entrySet()) {
            if (part.getKey() == NONE) bound.addAll(part.getValue());
            else walk(part.getValue(), n - 1, bound);
        }
    }

    int sheet(int k, int lane, int n) {
        fault = 0;
        if (!sheetNumber(k)) return UNKNOWN;
        if (!laneNumber(lane) || n > 60) return OUTSIDE;
        try {
            sheets[k] = lane == 0 ? new byte[n] : lane == 1 ? new short[n] : (Object) new int[n];
            return 1;
        } catch (NegativeArraySizeException e) {
            return fell(4);
        }
    }

    int lose(int k) {
        if (!sheetNumber(k)) return UNKNOWN;
        boolean had = sheets[k] != null;
        sheets[k] = null;
        return had ? 1 : 0;
    }

    int put(int k, int i, int v) {
        fault = 0;
        if (!sheetNumber(k)) return UNKNOWN;
        try {
            if (sheets[k] instanceof byte[]) ((byte[]) sheets[k])[i] = (byte) v;
            else if (sheets[k] instanceof short[]) ((short[]) sheets[k])[i] = (short) v;
            else ((int[]) sheets[k])[i] = v;
            return 1;
        } catch (NullPointerException e) {
            return fell(1);
        } catch (IndexOutOfBoundsException e) {
            return fell(3);
        }
    }

    long cell(int k, int i, int lane) {
        fault = 0;
        if (!sheetNumber(k) || !laneNumber(lane)) return LOST;
        try {
            return lane == 0 ? ((byte[]) sheets[k])[i] : lane == 1 ? ((short[]) sheets[k])[i] : ((int[]) sheets[k])[i];
        } catch (ClassCastException e) {
            fault = 2;
        } catch (NullPointerException e) {
            fault = 1;
        } catch (IndexOutOfBoundsException e) {
            fault = 3;
        }
        return LOST;
    }

    int copy(int k, int i, int other, int j, int n) {
        fault = 0;
        if (!sheetNumber(k) || !sheetNumber(other)) return UNKNOWN;
        try {
            System.arraycopy(sheets[k], i, sheets[other], j, n);
            return n;
        } catch (NullPointerException e) {
            return fell(1);
        } catch (ArrayStoreException e) {
            return fell(2);
        } catch (IndexOutOfBoundsException e) {
            return fell(3);
        }
    }

    int tell(int x) {
        return answer(x) ? answers.get(x).told() : UNKNOWN;
    }

    int whisper(int x) {
        return answer(x) ? answers.get(x).whispered() : UNKNOWN;
    }

    int as(int x, int kind) {
        fault = 0;
        if (!answer(x)) return UNKNOWN;
        if (kind < 0 || kind > 2) return OUTSIDE;
        List<Class<? extends Plain>> classes = List.of(Plain.class, Sly.class, Vain.class);
        try {
            classes.get(kind).cast(answers.get(x));
            return 1;
        } catch (ClassCastException e) {
            return fell(2);
        }
    }

    int trace() {
        return trace;
    }

    int fault() {
        return fault;
    }

    int many(int what) {
        return what == 0 ? answers.size() : what == 1 ? weights.size() : what == 2 ? growth : what == 3 ? readings.size() : OUTSIDE;
    }
}
