import java.util.ArrayList;
import java.util.Arrays;
import java.util.HashMap;
import java.util.List;
import java.util.Map;
import java.util.function.IntPredicate;
import java.util.regex.Matcher;
import java.util.regex.Pattern;

/** The document once more, by lists of copies; grains are {size, amount, price}, sieves {kind, mesh, holds, wear}. */
final class Model {
    // Rows by how many sieves they have, and of how many: they are asked for again and again.
    private static final Map<Integer, List<List<Integer>>> ROWS = new HashMap<>();

    List<int[]> grains = new ArrayList<>(), sieves = new ArrayList<>();
    List<Integer> row = new ArrayList<>();
    int shakings = 0;
    Model kept = null;
    String tape = "";
    final int[] lanes = {-1, -1, -1, -1};
    final int[][] sheets = new int[4][];

    Model() { }

    static Model likeness(Model m) {
        Model c = new Model();
        m.grains.forEach(g -> c.grains.add(g.clone()));
        m.sieves.forEach(s -> c.sieves.add(s.clone()));
        c.row.addAll(m.row);
        c.shakings = m.shakings;
        return c;
    }

    private static boolean no(int v, int least, int most) {
        return v < least || v > most;
    }

    private boolean badGrain(int[] g) {
        return no(g[0], 1, 60) || no(g[1], 0, 9999) || no(g[2], 0, 99);
    }

    int grain(int[] a) {
        if (badGrain(a)) {
            return -1;
        }
        if (grains.size() == 6) {
            return -3;
        }
        grains.add(a.clone());
        return grains.size() - 1;
    }

    int set(int[] a) {
        if (no(a[0], 0, grains.size() - 1) || no(a[1], 0, 2)) {
            return -1;
        }
        int[] g = grains.get(a[0]).clone();
        int was = g[a[1]];
        g[a[1]] = a[2];
        if (badGrain(g)) {
            return -1;
        }
        grains.set(a[0], g);
        return was;
    }

    int sieve(int[] a) {
        if (no(a[0], 0, 3) || no(a[1], 1, 60) || no(a[2], 1, 99999) || no(a[3], 0, 3)) {
            return -1;
        }
        if (sieves.size() == 8) {
            return -3;
        }
        sieves.add(a.clone());
        return sieves.size() - 1;
    }

    int told(int[] a) {
        return no(a[0], 0, sieves.size() - 1) || no(a[1], 0, 3) ? -1 : sieves.get(a[0])[a[1]];
    }

    int mend(int[] a) {
        if (no(a[0], 0, sieves.size() - 1) || no(a[1], 1, 60)) {
            return -1;
        }
        int[] s = sieves.get(a[0]);
        int was = s[1];
        if (s[0] == 3) {
            return -2;
        }
        s[1] = a[1];
        return was;
    }

    int type(long w, int n) {
        if (no(n, 1, 8)) {
            return -1;
        }
        StringBuilder b = new StringBuilder();
        for (int i = n - 1; i >= 0; i--) {
            int c = (int) (w >>> 8 * i & 255);
            if (no(c, 32, 126)) {
                return -1;
            }
            b.append((char) c);
        }
        if (tape.length() + n > 120) {
            return -3;
        }
        tape += b;
        return tape.length();
    }

    /** The place of the first fault of a text by a pattern of its words, each with a sign ahead; -1 if there is none. */
    private int read(List<int[]> into, String[] signs, int[][] bounds, int most) {
        String t = tape;
        tape = "";
        Matcher word = Pattern.compile(" *([0-9]+|[^0-9 ])").matcher(t);
        List<String> words = new ArrayList<>();
        List<Integer> places = new ArrayList<>();
        while (word.find()) {
            words.add(word.group(1));
            places.add(word.start(1));
        }
        words.add("");
        places.add(t.length());
        int i = 0;
        while (true) {
            int[] one = new int[4];
            for (int part = 0; part < signs.length; part++) {
                boolean perhaps = part > 0;
                if (perhaps && !words.get(i).equals(signs[part])) {
                    one[part + 1] = bounds[part][2];
                    continue;
                }
                if (!signs[part].isEmpty()) {
                    int kind = part > 0 ? 0 : words.get(i).length() == 1 ? signs[0].indexOf(words.get(i)) : -1;
                    if (kind < 0) {
                        return places.get(i);
                    }
                    one[0] = part > 0 ? one[0] : kind;
                    i++;
                }
                String number = words.get(i);
                if (number.isEmpty() || no(number.charAt(0), '0', '9')) {
                    return places.get(i);
                }
                if (signs[part].equals("w") && number.length() > 1) {
                    return places.get(i) + (number.charAt(0) > '3' ? 0 : 1);
                }
                java.math.BigInteger v = new java.math.BigInteger(number);
                if (v.bitLength() > 30 || no(v.intValue(), bounds[part][0], bounds[part][1])) {
                    return places.get(i);
                }
                one[part + 1] = v.intValue();
                i++;
            }
            into.add(one);
            if (words.get(i).isEmpty()) {
                return -1;
            }
            if (!words.get(i).equals(",") || into.size() == most) {
                return places.get(i);
            }
            i++;
        }
    }

    int loft() {
        List<int[]> read = new ArrayList<>();
        int fault = read(read, new String[] {"pskt", "h", "w"}, new int[][] {{1, 60, 0}, {1, 99999, 99999}, {0, 3, 0}}, 8);
        if (fault >= 0) {
            return -20 - fault;
        }
        sieves = read;
        row.clear();
        return sieves.size();
    }

    int heap() {
        List<int[]> read = new ArrayList<>();
        int fault = read(read, new String[] {"", "*", "$"}, new int[][] {{1, 60, 0}, {0, 9999, 1}, {0, 99, 0}}, 6);
        if (fault >= 0) {
            return -20 - fault;
        }
        grains.clear();
        for (int[] g : read) {
            grains.add(new int[] {g[1], g[2], g[3]});
        }
        return grains.size();
    }

    int row() {
        String t = tape;
        tape = "";
        List<Integer> read = new ArrayList<>();
        for (int i = 0; i < t.length(); i++) {
            int s = t.charAt(i) - '0';
            if (t.charAt(i) == ' ') {
                continue;
            }
            if (no(s, 0, sieves.size() - 1) || read.contains(s) || read.size() == 6) {
                return -20 - i;
            }
            read.add(s);
        }
        row = read;
        return row.size();
    }

    int count(int what) {
        int amounts = grains.stream().mapToInt(g -> g[1]).sum();
        return no(what, 0, 4) ? -1 : new int[] {sieves.size(), grains.size(), row.size(), shakings, amounts}[what];
    }

    private int setOf(IntPredicate holds) {
        int set = 0;
        for (int g = 0; g < grains.size(); g++) {
            set += holds.test(g) ? 1 << g : 0;
        }
        return set;
    }

    private static boolean in(int set, int g) {
        return (set >> g & 1) == 1;
    }

    /** What is too big for a sieve, of what came to it. */
    private int tooBig(int[] sieve, int came) {
        return setOf(g -> in(came, g) && sieve[0] != 3 && grains.get(g)[0] > sieve[1]);
    }

    /** The heaps of a row, as sets of grains; the places that choke come to a list, if there is one. */
    private int[] heaps(List<Integer> row, List<Integer> choking) {
        int[] heaps = new int[row.size() + 1];
        int came = setOf(g -> grains.get(g)[1] > 0);
        for (int place = 0; place < row.size(); place++) {
            int[] sieve = sieves.get(row.get(place));
            heaps[place] = tooBig(sieve, came);
            if (amount(heaps[place]) > sieve[2]) {
                heaps[place] = came;
                if (choking != null) {
                    choking.add(place);
                }
            }
            came -= heaps[place];
        }
        heaps[row.size()] = came;
        return heaps;
    }

    private int amount(int heap) {
        int sum = 0;
        for (int g = 0; g < grains.size(); g++) {
            sum += in(heap, g) ? grains.get(g)[1] : 0;
        }
        return sum;
    }

    private int value(int heap) {
        int least = heap == 0 ? 0 : Integer.MAX_VALUE;
        for (int g = 0; g < grains.size(); g++) {
            least = in(heap, g) ? Math.min(least, grains.get(g)[2]) : least;
        }
        return amount(heap) * least;
    }

    private int valueOf(List<Integer> row) {
        int sum = 0;
        for (int heap : heaps(row, null)) {
            sum += value(heap);
        }
        return sum;
    }

    int found(int k, int what) {
        if (no(k, 0, row.size()) || no(what, 0, 2)) {
            return -1;
        }
        int heap = heaps(row, null)[k];
        return what == 0 ? heap : what == 1 ? amount(heap) : value(heap);
    }

    private int heapOf(int g) {
        int[] heaps = heaps(row, null);
        for (int k = 0; k < heaps.length; k++) {
            if (in(heaps[k], g)) {
                return k;
            }
        }
        return -4;
    }

    int where(int g) {
        return no(g, 0, grains.size() - 1) ? -1 : heapOf(g);
    }

    int chokes() {
        List<Integer> choking = new ArrayList<>();
        heaps(row, choking);
        return choking.stream().mapToInt(p -> 1 << p).sum();
    }

    int shake(List<Integer> row) {
        int[] heaps = heaps(row, null);
        int value = valueOf(row);
        for (int p = 0; p < row.size(); p++) {
            int[] s = sieves.get(row.get(p));
            int below = 0;
            for (int k = p + 1; k < heaps.length; k++) {
                below += heaps[k];
            }
            if (below > 0) {
                s[1] = Math.min(60, s[1] + s[3] * new int[] {1, 0, 2, 2}[s[0]]);
            }
        }
        shakings = Math.min(1000000, shakings + 1);
        return value;
    }

    int lasts() {
        Model m = likeness(this);
        int[] first = heaps(row, null);
        int n = 0;
        while (n < 200 && Arrays.equals(m.heaps(row, null), first)) {
            m.shake(row);
            n++;
        }
        return n;
    }

    /** All rows of just n of so many sieves, in their order. */
    private static List<List<Integer>> rows(int n, int sieves) {
        if (n == 0) {
            return List.of(List.of());
        }
        int key = 10 * n + sieves;
        if (!ROWS.containsKey(key)) {
            ROWS.put(key, longer(rows(n - 1, sieves), sieves));
        }
        return ROWS.get(key);
    }

    /** Each row with each sieve behind it that is not in it. */
    private static List<List<Integer>> longer(List<List<Integer>> rows, int sieves) {
        List<List<Integer>> all = new ArrayList<>();
        for (List<Integer> r : rows) {
            for (int s = 0; s < sieves; s++) {
                if (!r.contains(s)) {
                    List<Integer> one = new ArrayList<>(r);
                    one.add(s);
                    all.add(one);
                }
            }
        }
        return all;
    }

    private List<Integer> bestRow(int k) {
        List<Integer> best = null;
        int most = -1;
        for (int n = 0; n <= k; n++) {
            for (List<Integer> r : rows(n, sieves.size())) {
                int value = valueOf(r);
                if (value > most) {
                    most = value;
                    best = r;
                }
            }
        }
        return best;
    }

    int best(int k, int i) {
        if (no(k, 0, 4) || no(i, -2, 3)) {
            return -1;
        }
        List<Integer> r = bestRow(k);
        return i == -2 ? valueOf(r) : i == -1 ? r.size() : i < r.size() ? r.get(i) : -4;
    }

    private boolean parts(List<Integer> row, int set) {
        for (int heap : heaps(row, null)) {
            if (Integer.bitCount(heap & set) > 1) {
                return false;
            }
        }
        return true;
    }

    int parted(int set, int i) {
        if (no(set, 0, (1 << grains.size()) - 1) || no(i, -1, 3)) {
            return -1;
        }
        for (int n = 0; n <= 4; n++) {
            for (List<Integer> r : rows(n, sieves.size())) {
                if (parts(r, set)) {
                    return i == -1 ? n : i < n ? r.get(i) : -4;
                }
            }
        }
        return -4;
    }

    int season(int n, int k) {
        if (no(n, 1, 20) || no(k, 0, 3)) {
            return -1;
        }
        int value = 0;
        for (int day = 0; day < n; day++) {
            value += shake(bestRow(k));
        }
        return value;
    }

    long fits(int heap) {
        if (no(heap, 0, row.size())) {
            return -1;
        }
        long sizes = 0;
        for (int size = 60; size >= 1; size--) {
            Model m = likeness(this);
            m.grains.clear();
            m.grains.add(new int[] {size, 1, 0});
            sizes = sizes * 2 + (m.heapOf(0) == heap ? 1 : 0);
        }
        return sizes;
    }

    int shares(int n, int w, int p, int q) {
        if (no(n, 1, 9999) || no(w, 1, 9999999) || no(p, 1, 999) || no(q, 1, 999) || p == q) {
            return -1;
        }
        for (int of = 0; of <= n; of++) {
            if (of * p + (n - of) * q == w) {
                return of;
            }
        }
        return -4;
    }

    int image() {
        kept = likeness(this);
        return 1;
    }

    int restore() {
        if (kept == null) {
            return -4;
        }
        Model c = likeness(kept);
        grains = c.grains;
        sieves = c.sieves;
        row = c.row;
        shakings = c.shakings;
        return 1;
    }

    private int refused(int sheet, int lane, int from, int n) {
        return sheets[sheet] == null ? -11 : lanes[sheet] != lane ? -12
            : from < 0 || (long) from + n > sheets[sheet].length ? -13 : 0;
    }

    private boolean as(int[] sheet, int from) {
        for (int g = 0; g < grains.size(); g++) {
            if (grains.get(g)[1] > 0 && heapOf(g) != sheet[from + g]) {
                return false;
            }
        }
        return true;
    }

    long meshes(int sieve, int sheet, int lane, int from) {
        if (no(sieve, 0, sieves.size() - 1) || no(sheet, 0, 3) || no(lane, 0, 2)) {
            return -1;
        }
        if (!row.contains(sieve) || sieves.get(sieve)[0] == 3) {
            return -2;
        }
        int refused = refused(sheet, lane, from, grains.size());
        if (refused != 0) {
            return refused;
        }
        long set = 0;
        for (int mesh = 60; mesh >= 1; mesh--) {
            Model m = likeness(this);
            m.sieves.get(sieve)[1] = mesh;
            set = set * 2 + (m.as(sheets[sheet], from) ? 1 : 0);
        }
        return set;
    }

    int torn(int sheet, int lane, int from) {
        if (no(sheet, 0, 3) || no(lane, 0, 2)) {
            return -1;
        }
        int refused = refused(sheet, lane, from, grains.size());
        if (refused != 0) {
            return refused;
        }
        int set = as(sheets[sheet], from) ? 128 : 0;
        for (int p = 0; p < row.size(); p++) {
            Model m = likeness(this);
            m.sieves.get(row.get(p))[0] = 3;
            set += m.as(sheets[sheet], from) ? 1 << p : 0;
        }
        return set;
    }

    int sheet(int sheet, int lane, int n) {
        if (no(sheet, 0, 3) || no(lane, 0, 2) || n > 24) {
            return -1;
        }
        if (n < 0) {
            return -14;
        }
        sheets[sheet] = new int[n];
        lanes[sheet] = lane;
        return n;
    }

    int drop(int sheet) {
        if (no(sheet, 0, 3)) {
            return -1;
        }
        int had = sheets[sheet] == null ? -11 : sheets[sheet].length;
        sheets[sheet] = null;
        lanes[sheet] = -1;
        return had;
    }

    private static int cut(int lane, int v) {
        return lane == 0 ? (byte) v : lane == 1 ? (short) v : v;
    }

    int item(int sheet, int lane, int i, int v) {
        if (no(sheet, 0, 3) || no(lane, 0, 2)) {
            return -1;
        }
        int refused = refused(sheet, lane, i, 1);
        if (refused == 0) {
            sheets[sheet][i] = cut(lane, v);
        }
        return refused == 0 ? 1 : refused;
    }

    int film(int sheet, int lane, int from) {
        if (no(sheet, 0, 3) || no(lane, 0, 2)) {
            return -1;
        }
        int refused = refused(sheet, lane, from, grains.size());
        for (int g = 0; refused == 0 && g < grains.size(); g++) {
            sheets[sheet][from + g] = heapOf(g);
        }
        return refused == 0 ? grains.size() : refused;
    }

    int copy(int from, int i, int to, int j, int n) {
        if (no(from, 0, 3) || no(to, 0, 3)) {
            return -1;
        }
        if (sheets[from] == null || sheets[to] == null) {
            return -11;
        }
        if (lanes[from] != lanes[to]) {
            return -12;
        }
        if (n < 0 || refused(from, lanes[from], i, n) != 0 || refused(to, lanes[to], j, n) != 0) {
            return -13;
        }
        int[] taken = sheets[from].clone();
        for (int k = 0; k < n; k++) {
            sheets[to][j + k] = taken[i + k];
        }
        return n;
    }
}
