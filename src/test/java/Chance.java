import java.util.Random;

/** One run of calls by chance, of some promises more often than of others. */
final class Chance {
    // A whole text is typed and read.
    private static final int LOFT = 108, HEAP = 109, ROW = 110;
    // What each kind of run calls; what stands here twice comes twice as often. The last kind begins with nothing.
    private static final int[] SHAKING = {2, 3, 3, 3, 4, 5, 6, 6, 11, 12, 12, 13, 14, 14, 15, 15, 16, 16, 17, 17, 18, 18, 19, 20, 22, 23, ROW};
    private static final int[] SHEETS = {3, 3, 6, 13, 15, 22, 23, 24, 24, 24, 24, 25, 25, 25, 25, 26, 27, 28, 28, 29, 29, 29, 29, 30, 30, 30, ROW};
    private static final int[] TEXTS = {2, 4, 5, 5, 7, 8, 9, 10, 11, 12, 15, 17, 20, 22, 23, LOFT, LOFT, HEAP, HEAP, ROW, ROW};
    private static final int[] IMAGES = {2, 3, 4, 5, 6, 11, 12, 15, 19, 22, 22, 23, 23, 25, 26, 27, 28, 29, 30, LOFT, HEAP, ROW};
    private static final int[] ALL = {2, 3, 4, 5, 6, 7, 8, 9, 10, 11, 12, 13, 14, 15, 16, 17, 18, 19, 20, 21, 22, 23, 24, 25, 26, 27, 28, 29, 30,
        LOFT, HEAP, ROW};
    static final int[][] KINDS = {SHAKING, SHEETS, TEXTS, IMAGES, ALL};

    private static final int[] ODD = {Integer.MIN_VALUE, Integer.MAX_VALUE, -1, -2, 0, 7, 25, 61, 100, 10000, 100000};
    // The numbers of one call in so many get an odd one; the texts of one in so many are spoilt.
    private static final int SELDOM = 60, AT_TIMES = 4;
    private static final String SIGNS = "pskthw*$,  0123456789x/:~";
    // How many items a sheet of much use has, and from which on they are looked at.
    private static final int ITEMS = 9, FROM = 3;

    private final Random r;
    private final int[] kind;
    private final Twin t = new Twin();
    private final Model m = t.model;

    Chance(Random r, int[] kind) {
        this.r = r;
        this.kind = kind;
    }

    /** Answers if all answers were as the model's. */
    boolean run() {
        if (kind != ALL) {
            begin();
        }
        while (!t.isOver()) {
            call(kind[below(kind.length)]);
        }
        return !t.differs();
    }

    private void begin() {
        t.read(8, loft(3 + below(6)));
        t.read(9, heap(3 + below(4)));
        t.read(10, row());
        for (int sheet = 0; sheet < 3; sheet++) {
            t.call(26, sheet, below(3), ITEMS);
            t.call(29, sheet, m.lanes[sheet], below(FROM));
        }
    }

    private void call(int promise) {
        switch (promise) {
            case LOFT: whole(8, loft(1 + below(8))); break;
            case HEAP: whole(9, heap(1 + below(6))); break;
            case ROW: whole(10, row()); break;
            case 7: t.type(spoilt(below(2) == 0 ? "p7,k8" : "30*9$2"), 1 + below(8)); break;
            default: t.call(promise, odd(numbers(promise)));
        }
        if (promise == 7 && below(AT_TIMES) == 0) {
            t.call(7, r.nextLong(), below(10));
        }
    }

    private void whole(int promise, String text) {
        t.type(below(AT_TIMES) == 0 ? spoilt(text) : text, 1 + below(8));
        t.call(promise);
    }

    private int below(int n) {
        return r.nextInt(n);
    }

    private int any(int... of) {
        return of[below(of.length)];
    }

    // ---- numbers

    private long[] odd(long[] a) {
        for (int i = 0; i < a.length; i++) {
            a[i] = below(SELDOM) == 0 ? any(ODD) : a[i];
        }
        return a;
    }

    private long[] numbers(int promise) {
        int what = below(3), sieve = sieve(), grain = below(m.grains.size() + 1);
        switch (promise) {
            case 2: return new long[] {size(), amount(), below(12)};
            case 3: return new long[] {grain, what, what == 0 ? size() : what == 1 ? amount() : below(12)};
            case 4: return new long[] {below(4), mesh(), holds(), below(4)};
            case 5: return new long[] {sieve, below(4)};
            case 6: return new long[] {sieve, mesh()};
            case 11: return new long[] {below(5)};
            case 12: return new long[] {place(), what};
            case 13: return new long[] {grain};
            case 17: return new long[] {any(0, 1, 2, 2, 3, 4), below(6) - 2};
            case 18: return new long[] {below(1 << m.grains.size()), below(5) - 1};
            case 19: return new long[] {any(1, 2, 3, 20), any(0, 1, 2, 2, 3)};
            case 20: return new long[] {place()};
            case 21: return shares();
            default: return ofSheets(promise);
        }
    }

    private long[] ofSheets(int promise) {
        int sheet = below(4), from = below(FROM), lane = m.lanes[sheet] < 0 || below(20) == 0 ? below(3) : m.lanes[sheet];
        switch (promise) {
            case 24: return new long[] {sieve(), sheet, lane, from};
            case 25: case 29: return new long[] {sheet, lane, from};
            case 26: return new long[] {sheet, below(3), any(ITEMS, ITEMS, ITEMS, below(27) - 1)};
            case 27: return new long[] {below(12) == 0 ? sheet : 3};
            case 28: return new long[] {sheet, lane, below(ITEMS), item()};
            case 30: return new long[] {sheet, below(5), below(2) == 0 ? sheet : below(4), below(5), below(7)};
            default: return new long[0];
        }
    }

    private int sieve() {
        return !m.row.isEmpty() && below(3) > 0 ? m.row.get(below(m.row.size())) : below(m.sieves.size() + 1);
    }

    private int place() {
        return below(m.row.size() + (below(10) == 0 ? 2 : 1));
    }

    /** Sizes are often near meshes, and meshes near sizes: there it shows. */
    private int size() {
        return m.sieves.isEmpty() || below(2) == 0 ? 1 + below(60) : near(m.sieves.get(below(m.sieves.size()))[1]);
    }

    private int mesh() {
        return m.grains.isEmpty() || below(2) == 0 ? 1 + below(60) : near(m.grains.get(below(m.grains.size()))[0]);
    }

    private static int within60(int v) {
        return Math.max(1, Math.min(60, v));
    }

    private int near(int v) {
        return within60(v + below(3) - 1);
    }

    private int amount() {
        int holds = m.sieves.isEmpty() ? 0 : m.sieves.get(below(m.sieves.size()))[2] + below(2);
        return below(6) == 0 ? 0 : below(4) == 0 && holds < 10000 ? holds : below(30);
    }

    private int holds() {
        return below(3) == 0 ? 99999 : 1 + below(60);
    }

    private int item() {
        return any(below(7), below(7), below(7) + 256, below(7) - 65536, -4, r.nextInt());
    }

    private long[] shares() {
        int n = 1 + below(20), p = 1 + below(20), q = 1 + below(20), of = below(n + 1);
        return new long[] {n, of * p + (n - of) * q + (below(3) == 0 ? below(9) - 4 : 0), p, q};
    }

    // ---- texts

    private String blanks() {
        return below(8) == 0 ? " ".repeat(1 + below(2)) : "";
    }

    private String number(int v) {
        return blanks() + (below(8) == 0 ? "0".repeat(1 + below(3)) : "") + v;
    }

    private String perhaps(char sign, String rest) {
        return below(2) == 0 ? "" : blanks() + sign + rest;
    }

    private String loft(int n) {
        StringBuilder b = new StringBuilder();
        for (int i = 0; i < n; i++) {
            b.append(i == 0 ? "" : ",").append(blanks()).append("pskt".charAt(below(4))).append(number(mesh()));
            b.append(perhaps('h', number(holds()))).append(perhaps('w', blanks() + below(4))).append(blanks());
        }
        return onTape(b.toString());
    }

    private String heap(int n) {
        StringBuilder b = new StringBuilder();
        for (int i = 0; i < n; i++) {
            b.append(i == 0 ? "" : ",").append(number(size())).append(perhaps('*', number(amount())));
            b.append(perhaps('$', number(below(12)))).append(blanks());
        }
        return onTape(b.toString());
    }

    private String row() {
        StringBuilder b = new StringBuilder();
        for (int i = below(7); i > 0 && m.sieves.size() > 0; i--) {
            int s = below(m.sieves.size());
            b.append(b.indexOf(String.valueOf(s)) < 0 ? String.valueOf(s) : "").append(blanks());
        }
        return b.toString();
    }

    private static String onTape(String text) {
        return text.substring(0, Math.min(text.length(), Twin.TAPE));
    }

    /** One byte is another one, or one is left out or comes between. */
    private String spoilt(String text) {
        int i = below(text.length() + 1), end = Math.min(text.length(), i + below(2));
        String sign = below(3) == 0 ? "" : String.valueOf(SIGNS.charAt(below(SIGNS.length())));
        return onTape(text.substring(0, i) + sign + text.substring(end));
    }
}
