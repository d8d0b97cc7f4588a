/**
 * A secret by a text, what is shown by the answers, and what she asks next.
 *
 * All rows are made by the constructors and used again, so that no call makes an object:
 * all calls of a run share one room.
 */
public final class LieNights {
    public static final int UNKNOWN = -1, OUTSIDE = -2, STATE = -3, FULL = -4, NONE = -9;
    public static final long LOST = Long.MIN_VALUE;

    private static final int NO_FAULT = 0, NULL = 1, CAST = 2, INDEX = 3, SIZE = 4;
    private static final int PLAIN = 0, SLY = 1, VAIN = 2;
    private static final int MOST_PLACE = 9, MOST_GROWTH = 9, MOST_SHOWN = 10;
    private static final int MOST_READINGS = 8, MOST_NIGHTS = 20, MOST_MONTHS = 99, MOST_ODDS = 9;
    private static final int SHEETS = 4, MOST_LANE = 2, MOST_CELLS = 60;
    private static final int TEXT_REFUSED = -100, FAULT_ANSWER = -10;

    private final Sheet[] sheets = new Sheet[SHEETS];
    private final Plan plan = new Plan();
    private final int[] asked = new int[MOST_READINGS];
    private final int[] showed = new int[MOST_READINGS];
    private Secret secret = new Secret();
    // A text is read into the spare one, so that a refused text changes nothing.
    private Secret spare = new Secret();
    private boolean planIsOld = true;
    private int readings;
    private int trace;
    private int lastFault = NO_FAULT;

    public LieNights() {
        for (int k = 0; k < sheets.length; k++) {
            sheets[k] = new Sheet();
        }
    }

    // ---- 1 the secret

    public int secret(int sheet, int lane, int i, int n) {
        lastFault = NO_FAULT;
        Sheet from = sheetOf(sheet);
        if (from == null) {
            return UNKNOWN;
        }
        if (!within(lane, MOST_LANE)) {
            return OUTSIDE;
        }
        int found = from.faultAs(lane);
        if (found == NO_FAULT && n < 0) {
            found = SIZE;
        }
        if (found == NO_FAULT && !from.hasCells(i, n)) {
            found = INDEX;
        }
        if (found != NO_FAULT) {
            return faulted(found);
        }
        int firstFault = spare.readText(from, i, n);
        if (firstFault != Secret.TAKEN) {
            return TEXT_REFUSED - firstFault;
        }
        takeSpare();
        return secret.answers();
    }

    public int ofAnswer(int x, int what) {
        if (!isAnswer(x)) {
            return UNKNOWN;
        }
        if (!within(what, 1)) {
            return OUTSIDE;
        }
        return what == 0 ? secret.kindOf(x) : secret.placeOf(x);
    }

    public int move(int x, int v) {
        if (!isAnswer(x)) {
            return UNKNOWN;
        }
        if (!within(v, MOST_PLACE)) {
            return OUTSIDE;
        }
        int was = secret.placeOf(x);
        secret.setPlace(x, v);
        planIsOld = true;
        return was;
    }

    public int grow(int v) {
        if (!within(v, MOST_GROWTH)) {
            return OUTSIDE;
        }
        if (noSecret()) {
            return STATE;
        }
        int was = secret.growth();
        secret.setGrowth(v);
        return was;
    }

    public int shown(int x, int t) {
        if (!isAnswer(x) || !isAnswer(t)) {
            return UNKNOWN;
        }
        return secret.shownBy(x, t);
    }

    // ---- 2 nights

    public int nights(int t, int sheet, int lane, int i, int n, int what) {
        lastFault = NO_FAULT;
        Sheet from = sheetOf(sheet);
        if (!isAnswer(t) || from == null) {
            return UNKNOWN;
        }
        if (!within(lane, MOST_LANE) || !within(n, MOST_NIGHTS) || !within(what, 2)) {
            return OUTSIDE;
        }
        int found = from.faultAs(lane);
        if (found == NO_FAULT && !from.hasCells(i, n)) {
            found = INDEX;
        }
        if (found != NO_FAULT) {
            return faulted(found);
        }
        if (!areAnswers(from, i, n)) {
            return UNKNOWN;
        }
        if (what == 0) {
            return mayBe(t, from, i, n);
        }
        int bound = boundOn(t, from, i, n);
        if (what == 1) {
            return bound;
        }
        return bound != NONE || n == 0 ? NONE : secret.shownBy(from.get(i + n - 1), t);
    }

    // ---- 3 what to ask

    public int worst(int set) {
        if (noSecret()) {
            return STATE;
        }
        if (!isSetOf(secret.answers(), set)) {
            return OUTSIDE;
        }
        return planned().worstOf(set);
    }

    public int ask(int set) {
        if (noSecret()) {
            return STATE;
        }
        if (!isSetOf(secret.answers(), set)) {
            return OUTSIDE;
        }
        return planned().askOf(set);
    }

    public long mean(int set, int which) {
        if (noSecret() || !isSetOf(secret.answers(), set) || set == 0 || !within(which, 1)) {
            return LOST;
        }
        return shareNumber(planned().nightsOf(set), Integer.bitCount(set), which);
    }

    public int parts(int x, int set) {
        if (!isAnswer(x)) {
            return UNKNOWN;
        }
        if (!isSetOf(secret.answers(), set)) {
            return OUTSIDE;
        }
        int count = 0;
        int rest = set;
        for (int t = 0; t < secret.answers(); t++) {
            if (has(rest, t)) {
                rest &= ~secret.alike(x, t);
                count++;
            }
        }
        return count;
    }

    public int months(int set) {
        if (noSecret()) {
            return STATE;
        }
        if (!isSetOf(secret.pillars(), set)) {
            return OUTSIDE;
        }
        int weight = 0;
        for (int p = 0; p < secret.pillars(); p++) {
            if (has(set, p)) {
                weight += secret.weightOf(p);
            }
        }
        for (int m = 0; m <= MOST_MONTHS; m++) {
            if (secret.growth() * m >= weight) {
                return m;
            }
        }
        return NONE;
    }

    public int down(int m) {
        if (noSecret()) {
            return STATE;
        }
        if (!within(m, MOST_MONTHS)) {
            return OUTSIDE;
        }
        int strength = secret.growth() * m;
        int most = 0;
        int pair = NONE;
        for (int p = 0; p < secret.pillars(); p++) {
            for (int q = p + 1; q < secret.pillars(); q++) {
                int weight = secret.weightOf(p) + secret.weightOf(q);
                if (weight <= strength && weight > most) {
                    most = weight;
                    pair = 10 * p + q;
                }
            }
        }
        return pair;
    }

    // ---- 4 what was shown

    public int reading(int x, int v) {
        if (!isAnswer(x)) {
            return UNKNOWN;
        }
        if (v != NONE && !within(v, MOST_SHOWN)) {
            return OUTSIDE;
        }
        if (readings >= MOST_READINGS) {
            return FULL;
        }
        write(asked, readings, x);
        write(showed, readings, v);
        return readings++;
    }

    public int back(int k) {
        if (!within(k, readings)) {
            return OUTSIDE;
        }
        readings -= k;
        return readings;
    }

    public int left() {
        return noSecret() ? STATE : truths();
    }

    public int kinds(int x) {
        if (!isAnswer(x)) {
            return UNKNOWN;
        }
        int was = secret.kindOf(x);
        int set = 0;
        for (int kind = PLAIN; kind <= VAIN; kind++) {
            secret.setKind(x, kind);
            if (truths() != 0) {
                set |= 1 << kind;
            }
        }
        secret.setKind(x, was);
        return set;
    }

    public int places(int x) {
        if (!isAnswer(x)) {
            return UNKNOWN;
        }
        int was = secret.placeOf(x);
        int set = 0;
        for (int place = 0; place <= MOST_PLACE; place++) {
            secret.setPlace(x, place);
            if (truths() != 0) {
                set |= 1 << place;
            }
        }
        secret.setPlace(x, was);
        return set;
    }

    public long odds(int n, int which) {
        if (noSecret() || !within(n, MOST_ODDS) || !within(which, 1)) {
            return LOST;
        }
        Plan now = planned();
        int bound = 0;
        for (int t = 0; t < secret.answers(); t++) {
            if (isBoundWithin(now, t, n)) {
                bound++;
            }
        }
        return shareNumber(bound, secret.answers(), which);
    }

    // ---- 5 sheets, parts

    public int sheet(int k, int lane, int n) {
        lastFault = NO_FAULT;
        Sheet of = sheetOf(k);
        if (of == null) {
            return UNKNOWN;
        }
        if (!within(lane, MOST_LANE) || n > MOST_CELLS) {
            return OUTSIDE;
        }
        if (n < 0) {
            return faulted(SIZE);
        }
        of.renew(lane, n);
        return 1;
    }

    public int lose(int k) {
        Sheet of = sheetOf(k);
        if (of == null) {
            return UNKNOWN;
        }
        if (of.isNothing()) {
            return 0;
        }
        of.clear();
        return 1;
    }

    public int put(int k, int i, int v) {
        lastFault = NO_FAULT;
        Sheet of = sheetOf(k);
        if (of == null) {
            return UNKNOWN;
        }
        if (of.isNothing()) {
            return faulted(NULL);
        }
        if (!of.hasCells(i, 1)) {
            return faulted(INDEX);
        }
        of.set(i, v);
        return 1;
    }

    public long cell(int k, int i, int lane) {
        lastFault = NO_FAULT;
        Sheet of = sheetOf(k);
        if (of == null || !within(lane, MOST_LANE)) {
            return LOST;
        }
        int found = of.faultAs(lane);
        if (found == NO_FAULT && !of.hasCells(i, 1)) {
            found = INDEX;
        }
        if (found != NO_FAULT) {
            lastFault = found;
            return LOST;
        }
        return of.get(i);
    }

    public int copy(int k, int i, int other, int j, int n) {
        lastFault = NO_FAULT;
        Sheet from = sheetOf(k);
        Sheet to = sheetOf(other);
        if (from == null || to == null) {
            return UNKNOWN;
        }
        if (from.isNothing() || to.isNothing()) {
            return faulted(NULL);
        }
        if (!from.isLikeLane(to)) {
            return faulted(CAST);
        }
        if (!from.hasCells(i, n) || !to.hasCells(j, n)) {
            return faulted(INDEX);
        }
        to.takeCells(j, from, i, n);
        return n;
    }

    public int tell(int x) {
        if (!isAnswer(x)) {
            return UNKNOWN;
        }
        switch (secret.kindOf(x)) {
            case SLY:
                return tellSly(x);
            case VAIN:
                return tellVain(x);
            default:
                return tellPlain(x);
        }
    }

    public int whisper(int x) {
        if (!isAnswer(x)) {
            return UNKNOWN;
        }
        return secret.kindOf(x) == VAIN ? whisperVain() : whisperLent(x);
    }

    public int as(int x, int kind) {
        lastFault = NO_FAULT;
        if (!isAnswer(x)) {
            return UNKNOWN;
        }
        if (!within(kind, VAIN)) {
            return OUTSIDE;
        }
        // Each kind is also all kinds of lower numbers.
        return secret.kindOf(x) >= kind ? 1 : faulted(CAST);
    }

    public int trace() {
        return trace;
    }

    public int fault() {
        return lastFault;
    }

    public int many(int what) {
        switch (what) {
            case 0:
                return secret.answers();
            case 1:
                return secret.pillars();
            case 2:
                return secret.growth();
            case 3:
                return readings;
            default:
                return OUTSIDE;
        }
    }

    // ---- what the calls share

    private static boolean within(int v, int most) {
        return v >= 0 && v <= most;
    }

    private static boolean has(int set, int k) {
        return (set >> k & 1) != 0;
    }

    private static boolean isSetOf(int many, int set) {
        return set >= 0 && set < 1 << many;
    }

    private static int at(int[] row, int i) {
        return i >= 0 && i < row.length ? row[i] : 0;
    }

    private static void write(int[] row, int i, int v) {
        if (i >= 0 && i < row.length) {
            row[i] = v;
        }
    }

    /** The upper (which 0) or lower number of a share in least terms; of none of them it is 0 to 1. */
    private static long shareNumber(int upper, int lower, int which) {
        int number = which == 0 ? upper : lower;
        for (int d = lower; d > 1; d--) {
            if (upper % d == 0 && lower % d == 0) {
                return number / d;
            }
        }
        return number;
    }

    private boolean noSecret() {
        return secret.answers() == 0;
    }

    private boolean isAnswer(int x) {
        return x >= 0 && x < secret.answers();
    }

    private Sheet sheetOf(int k) {
        return k >= 0 && k < sheets.length ? sheets[k] : null;
    }

    private int faulted(int which) {
        lastFault = which;
        return FAULT_ANSWER - which;
    }

    private void takeSpare() {
        Secret was = secret;
        secret = spare;
        spare = was;
        readings = 0;
        planIsOld = true;
    }

    /** Plans only where a plan is asked for, as a plan is dearer than all else here. */
    private Plan planned() {
        if (planIsOld) {
            plan.make(secret);
            planIsOld = false;
        }
        return plan;
    }

    private boolean areAnswers(Sheet from, int i, int n) {
        for (int night = 0; night < n; night++) {
            if (!isAnswer(from.get(i + night))) {
                return false;
            }
        }
        return true;
    }

    private int boundOn(int t, Sheet from, int i, int n) {
        for (int night = 0; night < n; night++) {
            if (from.get(i + night) == t) {
                return night;
            }
        }
        return NONE;
    }

    /** From the night on which he is bound only t is left, so that no night behind it matters. */
    private int mayBe(int t, Sheet from, int i, int n) {
        int set = secret.all();
        for (int night = 0; night < n; night++) {
            set &= secret.alike(from.get(i + night), t);
        }
        return set;
    }

    private boolean isBoundWithin(Plan now, int t, int n) {
        int set = secret.all();
        for (int night = 0; night < n; night++) {
            int x = now.askOf(set);
            if (x == t) {
                return true;
            }
            set &= secret.alike(x, t);
        }
        return false;
    }

    private int truths() {
        int set = 0;
        for (int t = 0; t < secret.answers(); t++) {
            if (areReadingsSo(t)) {
                set |= 1 << t;
            }
        }
        return set;
    }

    private boolean areReadingsSo(int t) {
        for (int r = 0; r < readings; r++) {
            if (secret.shownBy(at(asked, r), t) != at(showed, r)) {
                return false;
            }
        }
        return true;
    }

    private void leave(int number) {
        trace = 31 * trace + number;
    }

    private int tellPlain(int x) {
        leave(1);
        return secret.placeOf(x);
    }

    private int tellSly(int x) {
        leave(2);
        return tellPlain(x) + 100;
    }

    private int tellVain(int x) {
        leave(3);
        int bySly = tellSly(x);
        return bySly + tellPlain(x);
    }

    private int whisperLent(int x) {
        leave(4);
        return x;
    }

    private int whisperVain() {
        leave(5);
        return 40;
    }

    /** A row of numbers of a lane, or nothing. Its cells are made once, and used by every row it gets. */
    private static final class Sheet {
        private static final int NOTHING = -1, BYTES = 0, SHORTS = 1;

        private final int[] cells = new int[MOST_CELLS];
        private int lane = NOTHING;
        private int length;

        boolean isNothing() {
            return lane == NOTHING;
        }

        boolean isLikeLane(Sheet other) {
            return lane == other.lane;
        }

        /** The fault of taking it as a row of a lane: nothing can be taken as any row, but has no cells. */
        int faultAs(int wanted) {
            if (isNothing()) {
                return NULL;
            }
            return lane == wanted ? NO_FAULT : CAST;
        }

        /** The lengths are compared by what is left behind i, as i + n may wrap. */
        boolean hasCells(int i, int n) {
            return within(i, length) && within(n, length - i);
        }

        void renew(int newLane, int newLength) {
            lane = newLane;
            length = newLength;
            for (int i = 0; i < newLength; i++) {
                write(cells, i, 0);
            }
        }

        void clear() {
            lane = NOTHING;
            length = 0;
        }

        int get(int i) {
            return at(cells, i);
        }

        void set(int i, int v) {
            write(cells, i, cut(v));
        }

        private int cut(int v) {
            if (lane == BYTES) {
                return (byte) v;
            }
            return lane == SHORTS ? (short) v : v;
        }

        /** Goes backwards where it moves cells of one sheet up, so that they come as they were. */
        void takeCells(int to, Sheet from, int i, int n) {
            if (to > i) {
                for (int c = n - 1; c >= 0; c--) {
                    write(cells, to + c, from.get(i + c));
                }
            } else {
                for (int c = 0; c < n; c++) {
                    write(cells, to + c, from.get(i + c));
                }
            }
        }
    }

    /** The answers, the growth and the pillars of a text; a secret without answers is none. */
    private static final class Secret {
        static final int MOST_ANSWERS = 6;
        static final int TAKEN = -1;

        private static final int LEAST_ANSWERS = 2, MOST_PILLARS = 5, LEAST_PILLARS = 1;
        // What is due next in a text.
        private static final int BEGIN = 0, ANSWER = 1, KIND = 2, PLACE = 3, GROWTH = 4, PILLAR = 5, WEIGHT = 6;
        private static final int WRONG = -1;

        private final int[] kinds = new int[MOST_ANSWERS];
        private final int[] places = new int[MOST_ANSWERS];
        private final int[] weights = new int[MOST_PILLARS];
        private int answers;
        private int pillars;
        private int growth;

        int answers() {
            return answers;
        }

        int pillars() {
            return pillars;
        }

        int growth() {
            return growth;
        }

        int kindOf(int x) {
            return at(kinds, x);
        }

        int placeOf(int x) {
            return at(places, x);
        }

        int weightOf(int p) {
            return at(weights, p);
        }

        void setGrowth(int v) {
            growth = v;
        }

        void setKind(int x, int kind) {
            write(kinds, x, kind);
        }

        void setPlace(int x, int place) {
            write(places, x, place);
        }

        int all() {
            return (1 << answers) - 1;
        }

        int shownBy(int x, int t) {
            if (x == t) {
                return NONE;
            }
            int apart = Math.abs(at(places, x) - at(places, t));
            switch (at(kinds, x)) {
                case SLY:
                    return apart + 1;
                case VAIN:
                    return apart / 2;
                default:
                    return apart;
            }
        }

        /** All by which x shows just what it shows if t is the truth. */
        int alike(int x, int t) {
            int showing = shownBy(x, t);
            int set = 0;
            for (int other = 0; other < answers; other++) {
                if (shownBy(x, other) == showing) {
                    set |= 1 << other;
                }
            }
            return set;
        }

        /** TAKEN, or the first fault: what is read by then is of no use. */
        int readText(Sheet from, int i, int n) {
            answers = 0;
            pillars = 0;
            int due = BEGIN;
            for (int c = 0; c < n; c++) {
                due = takeCode(due, from.get(i + c));
                if (due == WRONG) {
                    return c;
                }
            }
            return due == PILLAR && pillars >= LEAST_PILLARS ? TAKEN : n;
        }

        private int takeCode(int due, int code) {
            switch (due) {
                case BEGIN:
                    return code == 'a' ? ANSWER : WRONG;
                case ANSWER:
                    if (code == ',') {
                        return answers < MOST_ANSWERS ? KIND : WRONG;
                    }
                    return code == ';' && answers >= LEAST_ANSWERS ? GROWTH : WRONG;
                case KIND:
                    return takeKind(kindByLetter(code));
                case PLACE:
                    return takePlace(code);
                case GROWTH:
                    return takeGrowth(code);
                case PILLAR:
                    return code == '/' && pillars < MOST_PILLARS ? WEIGHT : WRONG;
                case WEIGHT:
                    return takeWeight(code);
                default:
                    return WRONG;
            }
        }

        private int takeKind(int kind) {
            if (kind == NONE) {
                return WRONG;
            }
            write(kinds, answers, kind);
            return PLACE;
        }

        private int takePlace(int code) {
            if (!isDigit(code)) {
                return WRONG;
            }
            write(places, answers, code - '0');
            answers++;
            return ANSWER;
        }

        private int takeGrowth(int code) {
            if (!isDigit(code)) {
                return WRONG;
            }
            growth = code - '0';
            return PILLAR;
        }

        private int takeWeight(int code) {
            if (!isDigit(code) || code == '0') {
                return WRONG;
            }
            write(weights, pillars, code - '0');
            pillars++;
            return PILLAR;
        }

        private static boolean isDigit(int code) {
            return code >= '0' && code <= '9';
        }

        private static int kindByLetter(int code) {
            switch (code) {
                case 'p':
                    return PLAIN;
                case 's':
                    return SLY;
                case 'v':
                    return VAIN;
                default:
                    return NONE;
            }
        }
    }

    /** For every set of answers what is best to ask of it; a set is planned behind all sets within it. */
    private static final class Plan {
        private static final int SETS = 1 << Secret.MOST_ANSWERS;
        private static final int FAR = 1000;

        private final int[] alike = new int[Secret.MOST_ANSWERS * Secret.MOST_ANSWERS];
        private final int[] worst = new int[SETS];
        private final int[] first = new int[SETS];
        private final int[] nights = new int[SETS];
        private int answers;

        int worstOf(int set) {
            return at(worst, set);
        }

        int askOf(int set) {
            return set == 0 ? NONE : at(first, set);
        }

        /** Of the best way on the mean: the nights of all the set's answers, each as the truth, together. */
        int nightsOf(int set) {
            return at(nights, set);
        }

        void make(Secret secret) {
            answers = secret.answers();
            for (int x = 0; x < answers; x++) {
                for (int t = 0; t < answers; t++) {
                    write(alike, x * Secret.MOST_ANSWERS + t, secret.alike(x, t));
                }
            }
            for (int set = 1; set <= secret.all(); set++) {
                write(worst, set, FAR);
                write(nights, set, FAR);
                for (int x = 0; x < answers; x++) {
                    tryAsking(set, x);
                }
            }
        }

        private void tryAsking(int set, int x) {
            int deepest = 0;
            int sum = Integer.bitCount(set);
            // The night on which he is bound is the last: that part wants no more of them.
            int rest = set & ~(1 << x);
            for (int t = 0; t < answers; t++) {
                if (!has(rest, t)) {
                    continue;
                }
                int part = rest & at(alike, x * Secret.MOST_ANSWERS + t);
                if (part == set) {
                    // Nothing is learnt by it: of the same set she would ask the same again.
                    return;
                }
                rest &= ~part;
                deepest = Math.max(deepest, worstOf(part));
                sum += nightsOf(part);
            }
            if (deepest + 1 < worstOf(set)) {
                write(worst, set, deepest + 1);
                write(first, set, x);
            }
            write(nights, set, Math.min(nightsOf(set), sum));
        }
    }
}
