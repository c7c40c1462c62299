/** A mill loft: sieves of kinds over one another, grains that are shaken through rows of them. */
public final class SieveLoft {
    public static final int BAD = -1, NOT = -2, FULL = -3, NONE = -4, NULL = -11, CAST = -12, INDEX = -13, SIZE = -14;

    private static final int PLAIN = 0, STEEL = 1, SILK = 2, TORN = 3;
    private static final int MOST_GRAINS = 6, MOST_SIEVES = 8, MOST_PLACES = 6, MOST_TRIED = 4;
    private static final int WIDEST = 60, MOST_AMOUNT = 9999, MOST_PRICE = 99, MOST_HELD = 99999, MOST_WEAR = 3;
    private static final int MOST_SHAKINGS = 1000000, MOST_LASTING = 200;
    private static final int MOST_DAYS = 20, MOST_A_DAY = 3;
    private static final int MOST_SINGLES = 9999, MOST_WEIGHT = 999, MOST_TOGETHER = 9999999;
    private static final int MOST_TAPE = 120, FIRST_FAULT = -20;
    private static final int SHEETS = 4, MOST_ITEMS = 24, BYTES = 0, SHORTS = 1, INTS = 2, NOTHING = -1;
    private static final int AS_THEY_ARE = 1 << 7;

    private final Mill mill = new Mill();
    // Whatever "would be" is tried out here, so that no call makes a new mill.
    private final Mill trial = new Mill();
    private final Mill kept = new Mill();
    private boolean keeps = false;
    private final Search search = new Search();
    private final Tape tape = new Tape();
    private final Sheet[] sheets = new Sheet[SHEETS];

    public SieveLoft() {
        for (int i = 0; i < sheets.length; i++) {
            sheets[i] = new Sheet();
        }
    }

    // ---- 1 grains, sieves

    public int grain(int size, int amount, int price) {
        if (!within(size, 1, WIDEST) || !within(amount, 0, MOST_AMOUNT) || !within(price, 0, MOST_PRICE)) {
            return BAD;
        }
        return mill.grains >= MOST_GRAINS ? FULL : mill.addGrain(size, amount, price);
    }

    public int set(int grain, int what, int v) {
        if (!mill.hasGrain(grain)) {
            return BAD;
        }
        switch (what) {
            case 0:
                return within(v, 1, WIDEST) ? exchange(mill.size, grain, v) : BAD;
            case 1:
                return within(v, 0, MOST_AMOUNT) ? exchange(mill.amount, grain, v) : BAD;
            case 2:
                return within(v, 0, MOST_PRICE) ? exchange(mill.price, grain, v) : BAD;
            default:
                return BAD;
        }
    }

    public int sieve(int kind, int mesh, int holds, int wear) {
        if (!within(kind, PLAIN, TORN) || !within(mesh, 1, WIDEST)
                || !within(holds, 1, MOST_HELD) || !within(wear, 0, MOST_WEAR)) {
            return BAD;
        }
        return mill.sieves >= MOST_SIEVES ? FULL : mill.addSieve(kind, mesh, holds, wear);
    }

    public int told(int sieve, int what) {
        if (!mill.hasSieve(sieve)) {
            return BAD;
        }
        switch (what) {
            case 0:
                return at(mill.kind, sieve);
            case 1:
                return at(mill.mesh, sieve);
            case 2:
                return at(mill.holds, sieve);
            case 3:
                return at(mill.wear, sieve);
            default:
                return BAD;
        }
    }

    public int mend(int sieve, int v) {
        if (!mill.hasSieve(sieve) || !within(v, 1, WIDEST)) {
            return BAD;
        }
        return at(mill.kind, sieve) == TORN ? NOT : exchange(mill.mesh, sieve, v);
    }

    public int type(long w, int n) {
        if (!within(n, 1, 8)) {
            return BAD;
        }
        for (int i = 0; i < n; i++) {
            if (!within(byteOf(w, i), 32, 126)) {
                return BAD;
            }
        }
        if (tape.length > MOST_TAPE - n) {
            return FULL;
        }
        for (int i = n - 1; i >= 0; i--) {
            tape.append(byteOf(w, i));
        }
        return tape.length;
    }

    public int loft() {
        tape.readLoft(trial);
        if (tape.fault < 0) {
            mill.takeSieves(trial);
            mill.places = 0;
        }
        return tape.answerOr(mill.sieves);
    }

    public int heap() {
        tape.readHeap(trial);
        if (tape.fault < 0) {
            mill.takeGrains(trial);
        }
        return tape.answerOr(mill.grains);
    }

    public int row() {
        tape.readRow(trial, mill.sieves);
        if (tape.fault < 0) {
            mill.takeRow(trial);
        }
        return tape.answerOr(mill.places);
    }

    public int count(int what) {
        switch (what) {
            case 0:
                return mill.sieves;
            case 1:
                return mill.grains;
            case 2:
                return mill.places;
            case 3:
                return mill.shakings;
            case 4:
                return mill.amountOf(mill.load());
            default:
                return BAD;
        }
    }

    // ---- 2 shaking

    public int found(int k, int what) {
        if (!mill.hasHeap(k) || !within(what, 0, 2)) {
            return BAD;
        }
        mill.spread();
        int heap = at(mill.heaps, k);
        return what == 0 ? heap : what == 1 ? mill.amountOf(heap) : mill.worth(heap);
    }

    public int where(int grain) {
        if (!mill.hasGrain(grain)) {
            return BAD;
        }
        mill.spread();
        return mill.heapOf(grain);
    }

    public int chokes() {
        int came = mill.load(), choked = 0;
        for (int p = 0; p < mill.places; p++) {
            int sieve = at(mill.row, p);
            if (mill.isTooMuch(sieve, mill.tooBig(sieve, came))) {
                choked |= 1 << p;
            }
            came = mill.falling(sieve, came);
        }
        return choked;
    }

    public int shake() {
        return mill.shakeThrough(mill.row, mill.places);
    }

    public int lasts() {
        mill.spread();
        trial.takeAll(mill);
        for (int times = 0; times < MOST_LASTING; times++) {
            trial.spread();
            if (!sameHeaps()) {
                return times;
            }
            trial.shakeThrough(trial.row, trial.places);
        }
        return MOST_LASTING;
    }

    public int best(int k, int i) {
        if (!within(k, 0, MOST_TRIED) || !within(i, -2, MOST_TRIED - 1)) {
            return BAD;
        }
        seekBest(k);
        return i == -2 ? search.value : i == -1 ? search.length : search.chosenAt(i);
    }

    public int parted(int set, int i) {
        if (!within(set, 0, (1 << mill.grains) - 1) || !within(i, -1, MOST_TRIED - 1)) {
            return BAD;
        }
        search.begin(MOST_TRIED, set);
        tryParted(mill, search, 0, mill.load());
        if (search.length < 0) {
            return NONE;
        }
        return i == -1 ? search.length : search.chosenAt(i);
    }

    public int season(int n, int k) {
        if (!within(n, 1, MOST_DAYS) || !within(k, 0, MOST_A_DAY)) {
            return BAD;
        }
        int value = 0;
        for (int day = 0; day < n; day++) {
            seekBest(k);
            value += mill.shakeThrough(search.chosen, search.length);
        }
        return value;
    }

    // ---- 3 what was

    public long fits(int heap) {
        if (!mill.hasHeap(heap)) {
            return BAD;
        }
        long sizes = 0;
        for (int size = 1; size <= WIDEST; size++) {
            if (mill.heapOfSize(size) == heap) {
                sizes |= 1L << (size - 1);
            }
        }
        return sizes;
    }

    public int shares(int n, int w, int p, int q) {
        if (!within(n, 1, MOST_SINGLES) || !within(w, 1, MOST_TOGETHER)
                || !within(p, 1, MOST_WEIGHT) || !within(q, 1, MOST_WEIGHT) || p == q) {
            return BAD;
        }
        int step = p - q, over = w - n * q;
        if (step == 0 || over % step != 0) {
            return NONE;
        }
        int share = over / step;
        return within(share, 0, n) ? share : NONE;
    }

    public int image() {
        kept.takeAll(mill);
        keeps = true;
        return 1;
    }

    public int restore() {
        if (!keeps) {
            return NONE;
        }
        mill.takeAll(kept);
        return 1;
    }

    // ---- 4 sheets

    public long meshes(int sieve, int sheet, int lane, int from) {
        Sheet s = sheetAt(sheet);
        if (!mill.hasSieve(sieve) || s == null || !isLane(lane)) {
            return BAD;
        }
        if (!mill.isInRow(sieve) || at(mill.kind, sieve) == TORN) {
            return NOT;
        }
        int refusal = s.refusal(lane, from, mill.grains);
        if (refusal != 0) {
            return refusal;
        }
        trial.takeAll(mill);
        long fitting = 0;
        for (int mesh = 1; mesh <= WIDEST; mesh++) {
            put(trial.mesh, sieve, mesh);
            if (bearsOut(trial, s, from)) {
                fitting |= 1L << (mesh - 1);
            }
        }
        return fitting;
    }

    public int torn(int sheet, int lane, int from) {
        Sheet s = sheetAt(sheet);
        if (s == null || !isLane(lane)) {
            return BAD;
        }
        int refusal = s.refusal(lane, from, mill.grains);
        if (refusal != 0) {
            return refusal;
        }
        int places = bearsOut(mill, s, from) ? AS_THEY_ARE : 0;
        trial.takeAll(mill);
        for (int p = 0; p < mill.places; p++) {
            int sieve = at(mill.row, p);
            int kind = exchange(trial.kind, sieve, TORN);
            if (bearsOut(trial, s, from)) {
                places |= 1 << p;
            }
            put(trial.kind, sieve, kind);
        }
        return places;
    }

    public int sheet(int sheet, int lane, int n) {
        Sheet s = sheetAt(sheet);
        if (s == null || !isLane(lane) || n > MOST_ITEMS) {
            return BAD;
        }
        if (n < 0) {
            return SIZE;
        }
        s.renew(lane, n);
        return n;
    }

    public int drop(int sheet) {
        Sheet s = sheetAt(sheet);
        if (s == null) {
            return BAD;
        }
        if (s.lane == NOTHING) {
            return NULL;
        }
        int had = s.length;
        s.renew(NOTHING, 0);
        return had;
    }

    public int item(int sheet, int lane, int i, int v) {
        Sheet s = sheetAt(sheet);
        if (s == null || !isLane(lane)) {
            return BAD;
        }
        int refusal = s.refusal(lane, i, 1);
        if (refusal != 0) {
            return refusal;
        }
        s.write(i, v);
        return 1;
    }

    public int film(int sheet, int lane, int from) {
        Sheet s = sheetAt(sheet);
        if (s == null || !isLane(lane)) {
            return BAD;
        }
        int refusal = s.refusal(lane, from, mill.grains);
        if (refusal != 0) {
            return refusal;
        }
        mill.spread();
        for (int g = 0; g < mill.grains; g++) {
            s.write(from + g, mill.heapOf(g));
        }
        return mill.grains;
    }

    public int copy(int from, int i, int to, int j, int n) {
        Sheet a = sheetAt(from), b = sheetAt(to);
        if (a == null || b == null) {
            return BAD;
        }
        if (a.lane == NOTHING || b.lane == NOTHING) {
            return NULL;
        }
        if (a.lane != b.lane) {
            return CAST;
        }
        if (!a.hasItems(i, n) || !b.hasItems(j, n)) {
            return INDEX;
        }
        System.arraycopy(a.items, i, b.items, j, n);
        return n;
    }

    // ---- what several calls need

    private static boolean within(int v, int least, int most) {
        return v >= least && v <= most;
    }

    private static int at(int[] list, int i) {
        return i >= 0 && i < list.length ? list[i] : 0;
    }

    private static void put(int[] list, int i, int v) {
        if (i >= 0 && i < list.length) {
            list[i] = v;
        }
    }

    private static int exchange(int[] list, int i, int v) {
        int was = at(list, i);
        put(list, i, v);
        return was;
    }

    private static void copyAll(int[] from, int[] to) {
        for (int i = 0; i < from.length && i < to.length; i++) {
            to[i] = from[i];
        }
    }

    private static int byteOf(long w, int i) {
        return (int) (w >> (8 * i)) & 255;
    }

    private static boolean isLane(int lane) {
        return within(lane, BYTES, INTS);
    }

    private Sheet sheetAt(int i) {
        return i >= 0 && i < sheets.length ? sheets[i] : null;
    }

    private boolean sameHeaps() {
        for (int k = 0; k <= mill.places; k++) {
            if (at(mill.heaps, k) != at(trial.heaps, k)) {
                return false;
            }
        }
        return true;
    }

    private static boolean bearsOut(Mill m, Sheet s, int from) {
        m.spread();
        for (int g = 0; g < m.grains; g++) {
            int heap = m.heapOf(g);
            if (heap != NONE && heap != at(s.items, from + g)) {
                return false;
            }
        }
        return true;
    }

    private void seekBest(int k) {
        search.begin(k, 0);
        tryBest(mill, search, 0, mill.load(), 0);
    }

    /** Tries the row told by s.tried up to depth, through which came falls, and all rows that go on from it. */
    private static void tryBest(Mill m, Search s, int depth, int came, int value) {
        int total = value + m.worth(came);
        if (s.length < 0 || total > s.value || total == s.value && depth < s.length) {
            s.choose(depth, total);
        }
        if (depth >= s.limit || depth >= MOST_TRIED) {
            return;
        }
        for (int sieve = 0; sieve < m.sieves; sieve++) {
            int falls = m.falling(sieve, came);
            // A sieve on which nothing stays parts nothing, so a shorter row is as good. One that is in the row already
            // is such a sieve: what came through it does so again.
            if (falls == came) {
                continue;
            }
            put(s.tried, depth, sieve);
            tryBest(m, s, depth + 1, falls, value + m.worth(came & ~falls));
        }
    }

    /** Tries the row told by s.tried up to depth, through which came falls, and all rows that go on from it. */
    private static void tryParted(Mill m, Search s, int depth, int came) {
        if (!s.mixes(came) && (s.length < 0 || depth < s.length)) {
            s.choose(depth, 0);
        }
        if (depth >= s.limit || depth >= MOST_TRIED) {
            return;
        }
        for (int sieve = 0; sieve < m.sieves; sieve++) {
            int falls = m.falling(sieve, came);
            // A sieve on which nothing stays only makes the row longer, as in tryBest.
            if (falls == came || s.mixes(came & ~falls)) {
                continue;
            }
            put(s.tried, depth, sieve);
            tryParted(m, s, depth + 1, falls);
        }
    }

    /** Grains, sieves and the row: all that an image keeps. Sets of grains are bits. */
    private static final class Mill {
        int grains, sieves, places, shakings;
        final int[] size = new int[MOST_GRAINS];
        final int[] amount = new int[MOST_GRAINS];
        final int[] price = new int[MOST_GRAINS];
        final int[] kind = new int[MOST_SIEVES];
        final int[] mesh = new int[MOST_SIEVES];
        final int[] holds = new int[MOST_SIEVES];
        final int[] wear = new int[MOST_SIEVES];
        final int[] row = new int[MOST_PLACES];
        // As spread() last left them.
        final int[] heaps = new int[MOST_PLACES + 1];

        boolean hasGrain(int g) {
            return g >= 0 && g < grains;
        }

        boolean hasSieve(int s) {
            return s >= 0 && s < sieves;
        }

        boolean hasHeap(int k) {
            return k >= 0 && k <= places;
        }

        boolean isInRow(int s) {
            for (int p = 0; p < places; p++) {
                if (at(row, p) == s) {
                    return true;
                }
            }
            return false;
        }

        int addGrain(int itsSize, int itsAmount, int itsPrice) {
            put(size, grains, itsSize);
            put(amount, grains, itsAmount);
            put(price, grains, itsPrice);
            grains++;
            return grains - 1;
        }

        int addSieve(int itsKind, int itsMesh, int itHolds, int itsWear) {
            put(kind, sieves, itsKind);
            put(mesh, sieves, itsMesh);
            put(holds, sieves, itHolds);
            put(wear, sieves, itsWear);
            sieves++;
            return sieves - 1;
        }

        void addPlace(int s) {
            put(row, places, s);
            places++;
        }

        void takeGrains(Mill from) {
            grains = from.grains;
            copyAll(from.size, size);
            copyAll(from.amount, amount);
            copyAll(from.price, price);
        }

        void takeSieves(Mill from) {
            sieves = from.sieves;
            copyAll(from.kind, kind);
            copyAll(from.mesh, mesh);
            copyAll(from.holds, holds);
            copyAll(from.wear, wear);
        }

        void takeRow(Mill from) {
            places = from.places;
            copyAll(from.row, row);
        }

        void takeAll(Mill from) {
            takeGrains(from);
            takeSieves(from);
            takeRow(from);
            shakings = from.shakings;
        }

        /** The grains that come to the first sieve of any row. */
        int load() {
            int set = 0;
            for (int g = 0; g < grains; g++) {
                if (at(amount, g) > 0) {
                    set |= 1 << g;
                }
            }
            return set;
        }

        int amountOf(int set) {
            int sum = 0;
            for (int g = 0; g < grains; g++) {
                if ((set >> g & 1) != 0) {
                    sum += at(amount, g);
                }
            }
            return sum;
        }

        int worth(int set) {
            int least = MOST_PRICE;
            for (int g = 0; g < grains; g++) {
                if ((set >> g & 1) != 0) {
                    least = Math.min(least, at(price, g));
                }
            }
            return amountOf(set) * least;
        }

        boolean letsFall(int s, int itsSize) {
            return at(kind, s) == TORN || itsSize <= at(mesh, s);
        }

        /** Those of a set that are too big for a sieve. */
        int tooBig(int s, int came) {
            int set = 0;
            for (int g = 0; g < grains; g++) {
                if ((came >> g & 1) != 0 && !letsFall(s, at(size, g))) {
                    set |= 1 << g;
                }
            }
            return set;
        }

        boolean isTooMuch(int s, int set) {
            return amountOf(set) > at(holds, s);
        }

        /** Those of a set that fall through a sieve; none, if it chokes. */
        int falling(int s, int came) {
            int stay = tooBig(s, came);
            return isTooMuch(s, stay) ? 0 : came & ~stay;
        }

        /** Makes the heaps of the row as they would be now. */
        void spread() {
            int came = load();
            for (int p = 0; p < places; p++) {
                int falls = falling(at(row, p), came);
                put(heaps, p, came & ~falls);
                came = falls;
            }
            put(heaps, places, came);
        }

        /** In which of the heaps that spread() made a grain is. */
        int heapOf(int g) {
            for (int k = 0; k <= places; k++) {
                if ((at(heaps, k) >> g & 1) != 0) {
                    return k;
                }
            }
            return NONE;
        }

        /** In which heap of the row one small grain would be. */
        int heapOfSize(int itsSize) {
            for (int p = 0; p < places; p++) {
                if (!letsFall(at(row, p), itsSize)) {
                    return p;
                }
            }
            return places;
        }

        /** Shakes a row of n sieves: what its heaps are worth. */
        int shakeThrough(int[] list, int n) {
            int came = load(), value = 0;
            for (int p = 0; p < n; p++) {
                int s = at(list, p);
                int falls = falling(s, came);
                value += worth(came & ~falls);
                if (falls != 0) {
                    widen(s);
                }
                came = falls;
            }
            shakings = Math.min(shakings + 1, MOST_SHAKINGS);
            return value + worth(came);
        }

        void widen(int s) {
            int times = at(kind, s) == STEEL ? 0 : at(kind, s) == PLAIN ? 1 : 2;
            put(mesh, s, Math.min(at(mesh, s) + times * at(wear, s), WIDEST));
        }
    }

    /** The row that is tried, and the best one so far. */
    private static final class Search {
        final int[] tried = new int[MOST_TRIED];
        final int[] chosen = new int[MOST_TRIED];
        int limit, apart, value;
        int length = -1;

        void begin(int most, int set) {
            limit = most;
            apart = set;
            value = 0;
            length = -1;
        }

        void choose(int n, int itsValue) {
            copyAll(tried, chosen);
            length = n;
            value = itsValue;
        }

        boolean mixes(int heap) {
            return Integer.bitCount(heap & apart) > 1;
        }

        int chosenAt(int i) {
            return i < length ? at(chosen, i) : NONE;
        }
    }

    /** Bytes that were typed, and how far they are read. */
    private static final class Tape {
        private static final int END = -1;

        final int[] bytes = new int[MOST_TAPE];
        int length, place;
        // The place of the first byte that can't stand where it does; below 0 there is none.
        int fault;

        void append(int b) {
            put(bytes, length, b);
            length++;
        }

        void readLoft(Mill into) {
            begin();
            into.sieves = 0;
            boolean more = true;
            for (int n = 1; more && n <= MOST_SIEVES; n++) {
                int kind = readKind();
                int mesh = readNumber(1, WIDEST);
                int holds = passes('h') ? readNumber(1, MOST_HELD) : MOST_HELD;
                int wear = passes('w') ? readDigit(MOST_WEAR) : 0;
                into.addSieve(kind, mesh, holds, wear);
                more = fault < 0 && n < MOST_SIEVES && passes(',');
            }
            end();
        }

        void readHeap(Mill into) {
            begin();
            into.grains = 0;
            boolean more = true;
            for (int n = 1; more && n <= MOST_GRAINS; n++) {
                int size = readNumber(1, WIDEST);
                int amount = passes('*') ? readNumber(0, MOST_AMOUNT) : 1;
                int price = passes('$') ? readNumber(0, MOST_PRICE) : 0;
                into.addGrain(size, amount, price);
                more = fault < 0 && n < MOST_GRAINS && passes(',');
            }
            end();
        }

        void readRow(Mill into, int sieves) {
            begin();
            into.places = 0;
            boolean more = true;
            for (int n = 0; more && n < MOST_PLACES; n++) {
                int s = next() - '0';
                more = within(s, 0, sieves - 1) && !into.isInRow(s);
                if (more) {
                    into.addPlace(s);
                    place++;
                }
            }
            end();
        }

        void begin() {
            place = 0;
            fault = -1;
        }

        void end() {
            if (next() != END) {
                blame(place);
            }
            length = 0;
        }

        /** What tells the fault, or a number if there was none. */
        int answerOr(int number) {
            return fault < 0 ? number : FIRST_FAULT - fault;
        }

        // What is read behind the first fault means nothing, so only the first one counts.
        void blame(int where) {
            if (fault < 0) {
                fault = where;
            }
        }

        /** The next byte that is no blank; it is not passed. */
        int next() {
            while (place < length && at(bytes, place) == ' ') {
                place++;
            }
            return place < length ? at(bytes, place) : END;
        }

        boolean passes(int sign) {
            boolean stands = next() == sign;
            if (stands) {
                place++;
            }
            return stands;
        }

        int readKind() {
            int kind = passes('p') ? PLAIN : passes('s') ? STEEL : passes('k') ? SILK : passes('t') ? TORN : NOTHING;
            if (kind == NOTHING) {
                blame(place);
            }
            return kind;
        }

        int readDigit(int most) {
            int digit = next() - '0';
            if (!within(digit, 0, most)) {
                blame(place);
                return 0;
            }
            place++;
            return digit;
        }

        int readNumber(int least, int most) {
            if (!within(next(), '0', '9')) {
                blame(place);
                return 0;
            }
            int first = place, number = 0;
            while (place < length && within(at(bytes, place), '0', '9')) {
                // A number may be as long as the tape: what is past every limit stays just past it.
                number = Math.min(number * 10 + at(bytes, place) - '0', MOST_HELD + 1);
                place++;
            }
            if (!within(number, least, most)) {
                blame(first);
            }
            return number;
        }
    }

    /** Nothing, or a row of a lane. */
    private static final class Sheet {
        final int[] items = new int[MOST_ITEMS];
        int lane = NOTHING;
        int length;

        void renew(int itsLane, int n) {
            lane = itsLane;
            length = Math.min(n, items.length);
            for (int i = 0; i < items.length; i++) {
                items[i] = 0;
            }
        }

        boolean hasItems(int from, int n) {
            return from >= 0 && from <= length && n >= 0 && n <= length - from;
        }

        /** Why n items of a lane can't be had from one on; 0 if they can. */
        int refusal(int itsLane, int from, int n) {
            if (lane == NOTHING) {
                return NULL;
            }
            if (lane != itsLane) {
                return CAST;
            }
            return hasItems(from, n) ? 0 : INDEX;
        }

        void write(int i, int v) {
            put(items, i, lane == BYTES ? (byte) v : lane == SHORTS ? (short) v : v);
        }
    }
}
