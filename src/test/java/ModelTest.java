import java.util.ArrayList;
import java.util.Arrays;
import java.util.List;
import java.util.Random;
import java.util.regex.Matcher;
import java.util.regex.Pattern;

/** Chance runs of calls, each answered by a second, slow model of the document as well: every row is tried, nothing is left out. */
public final class ModelTest {
    private static final int RUNS = 400, CALLS = 512;

    public static void main(String[] args) {
        int wrong = 0;
        for (int run = 0; run < RUNS && wrong < 5; run++) {
            wrong += run(new Random(run), run) ? 0 : 1;
        }
        System.out.println(wrong == 0 ? RUNS + " runs are as the model's" : wrong + " runs are not as the model's");
        System.exit(wrong == 0 ? 0 : 1);
    }

    private static boolean run(Random r, int run) {
        SieveLoft x = new SieveLoft();
        Model m = new Model();
        StringBuilder told = new StringBuilder();
        for (int i = 0; i < CALLS; i++) {
            Call c = Call.any(r, m);
            long got = c.on(x), due = c.on(m);
            told.append(c).append(" = ").append(got).append('\n');
            if (got != due) {
                System.out.println("run " + run + ", call " + i + ": due is " + due + " of the last of\n" + told);
                return false;
            }
        }
        return true;
    }

    /** A call with its arguments. */
    private static final class Call {
        private static final int[] ODD = {Integer.MIN_VALUE, Integer.MAX_VALUE, -1, -2, 0, 7, 25, 61, 100, 10000, 100000};

        final int number;
        final int[] a;
        final long w;

        private Call(int number, int[] a, long w) {
            this.number = number;
            this.a = a;
            this.w = w;
        }

        static Call any(Random r, Model m) {
            int n = 2 + r.nextInt(29);
            if (r.nextInt(4) == 0) {
                n = 7;
            }
            if (n >= 8 && n <= 10 && r.nextInt(3) > 0) {
                n = 7;
            }
            int[] a = arguments(n, r, m);
            for (int i = 0; i < a.length; i++) {
                if (r.nextInt(40) == 0) {
                    a[i] = ODD[r.nextInt(ODD.length)];
                }
            }
            long w = 0;
            if (n == 7) {
                w = text(r, m, a);
            }
            return new Call(n, a, w);
        }

        private static long text(Random r, Model m, int[] a) {
            String signs = r.nextInt(30) == 0 ? "p0$~x\u001f" : new String[] {"pskt123456789hw, 0", "1234567890*$, ", "01234567 "}[r.nextInt(3)];
            String[] whole = {"p40,k20", "s30w1,t", "p9h30w2,", "30*50$9,", "10*20$5,", "7,20$8", "012", "3 21", "10", "p25w1", ",k35w2", "45*9", ",5*2$3"};
            String s = whole[r.nextInt(whole.length)];
            if (r.nextInt(3) == 0 || m.tape.isEmpty() && r.nextInt(8) == 0) {
                StringBuilder b = new StringBuilder();
                for (int i = 0; i < 1 + r.nextInt(4); i++) {
                    b.append(signs.charAt(r.nextInt(signs.length())));
                }
                s = b.toString();
            }
            long w = r.nextInt(10) == 0 ? r.nextLong() : 0;
            for (int i = 0; i < s.length(); i++) {
                w = w << 8 | s.charAt(i);
            }
            a[0] = r.nextInt(60) == 0 ? a[0] : s.length();
            return w;
        }

        private static int[] arguments(int n, Random r, Model m) {
            int s = r.nextInt(m.sieves.size() + 1), g = r.nextInt(m.grains.size() + 1), k = r.nextInt(m.row.size() + 1);
            int sheet = r.nextInt(5), lane = r.nextInt(3), i = r.nextInt(12);
            if (sheet < 4 && m.lanes[sheet] >= 0 && r.nextInt(4) > 0) {
                lane = m.lanes[sheet];
            }
            switch (n) {
                case 2: return new int[] {1 + r.nextInt(60), r.nextInt(30), r.nextInt(12)};
                case 3: return new int[] {g, r.nextInt(3), r.nextInt(61)};
                case 4: return new int[] {r.nextInt(4), 1 + r.nextInt(60), 1 + r.nextInt(60), r.nextInt(4)};
                case 5: return new int[] {s, r.nextInt(4)};
                case 6: return new int[] {s, 1 + r.nextInt(60)};
                case 7: return new int[] {r.nextInt(10)};
                case 11: return new int[] {r.nextInt(5)};
                case 12: return new int[] {k, r.nextInt(3)};
                case 13: return new int[] {g};
                case 17: return new int[] {r.nextInt(5), r.nextInt(6) - 2};
                case 18: return new int[] {r.nextInt(1 << m.grains.size()), r.nextInt(5) - 1};
                case 19: return new int[] {1 + r.nextInt(r.nextInt(8) == 0 ? 20 : 3), r.nextInt(4)};
                case 20: return new int[] {k};
                case 21: return shares(r);
                case 24: return new int[] {s, sheet, lane, i - 1};
                case 25: case 29: return new int[] {sheet, lane, i - 1};
                case 26: return new int[] {sheet, lane, r.nextInt(26) - 1};
                case 27: return new int[] {sheet + 4 * r.nextInt(2)};
                case 28: return new int[] {sheet, lane, i, r.nextInt(4) == 0 ? 256 * r.nextInt(3) + r.nextInt(4) : r.nextInt(4)};
                case 30: return new int[] {sheet, i, r.nextInt(4), r.nextInt(12), r.nextInt(8) - 1};
                default: return new int[0];
            }
        }

        private static int[] shares(Random r) {
            int n = 1 + r.nextInt(20), p = 1 + r.nextInt(20), q = 1 + r.nextInt(20), of = r.nextInt(n + 1);
            return new int[] {n, of * p + (n - of) * q + (r.nextInt(3) == 0 ? r.nextInt(9) - 4 : 0), p, q};
        }

        long on(SieveLoft x) {
            switch (number) {
                case 2: return x.grain(a[0], a[1], a[2]);
                case 3: return x.set(a[0], a[1], a[2]);
                case 4: return x.sieve(a[0], a[1], a[2], a[3]);
                case 5: return x.told(a[0], a[1]);
                case 6: return x.mend(a[0], a[1]);
                case 7: return x.type(w, a[0]);
                case 8: return x.loft();
                case 9: return x.heap();
                case 10: return x.row();
                case 11: return x.count(a[0]);
                case 12: return x.found(a[0], a[1]);
                case 13: return x.where(a[0]);
                case 14: return x.chokes();
                case 15: return x.shake();
                case 16: return x.lasts();
                case 17: return x.best(a[0], a[1]);
                case 18: return x.parted(a[0], a[1]);
                case 19: return x.season(a[0], a[1]);
                case 20: return x.fits(a[0]);
                case 21: return x.shares(a[0], a[1], a[2], a[3]);
                case 22: return x.image();
                case 23: return x.restore();
                case 24: return x.meshes(a[0], a[1], a[2], a[3]);
                case 25: return x.torn(a[0], a[1], a[2]);
                case 26: return x.sheet(a[0], a[1], a[2]);
                case 27: return x.drop(a[0]);
                case 28: return x.item(a[0], a[1], a[2], a[3]);
                case 29: return x.film(a[0], a[1], a[2]);
                default: return x.copy(a[0], a[1], a[2], a[3], a[4]);
            }
        }

        long on(Model m) {
            switch (number) {
                case 2: return m.grain(a);
                case 3: return m.set(a);
                case 4: return m.sieve(a);
                case 5: return m.told(a);
                case 6: return m.mend(a);
                case 7: return m.type(w, a[0]);
                case 8: return m.loft();
                case 9: return m.heap();
                case 10: return m.row();
                case 11: return m.count(a[0]);
                case 12: return m.found(a[0], a[1]);
                case 13: return m.where(a[0]);
                case 14: return m.chokes();
                case 15: return m.shake(m.row);
                case 16: return m.lasts();
                case 17: return m.best(a[0], a[1]);
                case 18: return m.parted(a[0], a[1]);
                case 19: return m.season(a[0], a[1]);
                case 20: return m.fits(a[0]);
                case 21: return m.shares(a[0], a[1], a[2], a[3]);
                case 22: return m.image();
                case 23: return m.restore();
                case 24: return m.meshes(a[0], a[1], a[2], a[3]);
                case 25: return m.torn(a[0], a[1], a[2]);
                case 26: return m.sheet(a[0], a[1], a[2]);
                case 27: return m.drop(a[0]);
                case 28: return m.item(a[0], a[1], a[2], a[3]);
                case 29: return m.film(a[0], a[1], a[2]);
                default: return m.copy(a[0], a[1], a[2], a[3], a[4]);
            }
        }

        @Override
        public String toString() {
            return "promise " + number + " " + Arrays.toString(a) + (number == 7 ? " " + w : "");
        }
    }

    /** The document once more, by lists of copies; grains are {size, amount, price}, sieves {kind, mesh, holds, wear}. */
    private static final class Model {
        List<int[]> grains = new ArrayList<>(), sieves = new ArrayList<>();
        List<Integer> row = new ArrayList<>();
        int shakings = 0;
        Model kept = null;
        String tape = "";
        final int[] lanes = {-1, -1, -1, -1};
        final int[][] sheets = new int[4][];

        private Model() { }

        static Model likeness(Model m) {
            Model c = new Model();
            m.grains.forEach(g -> c.grains.add(g.clone()));
            m.sieves.forEach(s -> c.sieves.add(s.clone()));
            c.row.addAll(m.row);
            c.shakings = m.shakings;
            return c;
        }

        private static boolean no(int v, int least, int most) {
            return v < least || v > most;
        }

        private boolean badGrain(int[] g) {
            return no(g[0], 1, 60) || no(g[1], 0, 9999) || no(g[2], 0, 99);
        }

        int grain(int[] a) {
            if (badGrain(a)) {
                return -1;
            }
            if (grains.size() == 6) {
                return -3;
            }
            grains.add(a.clone());
            return grains.size() - 1;
        }

        int set(int[] a) {
            if (no(a[0], 0, grains.size() - 1) || no(a[1], 0, 2)) {
                return -1;
            }
            int[] g = grains.get(a[0]).clone();
            int was = g[a[1]];
            g[a[1]] = a[2];
            if (badGrain(g)) {
                return -1;
            }
            grains.set(a[0], g);
            return was;
        }

        int sieve(int[] a) {
            if (no(a[0], 0, 3) || no(a[1], 1, 60) || no(a[2], 1, 99999) || no(a[3], 0, 3)) {
                return -1;
            }
            if (sieves.size() == 8) {
                return -3;
            }
            sieves.add(a.clone());
            return sieves.size() - 1;
        }

        int told(int[] a) {
            return no(a[0], 0, sieves.size() - 1) || no(a[1], 0, 3) ? -1 : sieves.get(a[0])[a[1]];
        }

        int mend(int[] a) {
            if (no(a[0], 0, sieves.size() - 1) || no(a[1], 1, 60)) {
                return -1;
            }
            int[] s = sieves.get(a[0]);
            int was = s[1];
            if (s[0] == 3) {
                return -2;
            }
            s[1] = a[1];
            return was;
        }

        int type(long w, int n) {
            if (no(n, 1, 8)) {
                return -1;
            }
            StringBuilder b = new StringBuilder();
            for (int i = n - 1; i >= 0; i--) {
                int c = (int) (w >>> 8 * i & 255);
                if (no(c, 32, 126)) {
                    return -1;
                }
                b.append((char) c);
            }
            if (tape.length() + n > 120) {
                return -3;
            }
            tape += b;
            return tape.length();
        }

        /** The place of the first fault of a text by a pattern of its words, each with a sign ahead; -1 if there is none. */
        private int read(List<int[]> into, String[] signs, int[][] bounds, int most) {
            String t = tape;
            tape = "";
            Matcher word = Pattern.compile(" *([0-9]+|[^0-9 ])").matcher(t);
            List<String> words = new ArrayList<>();
            List<Integer> places = new ArrayList<>();
            while (word.find()) {
                words.add(word.group(1));
                places.add(word.start(1));
            }
            words.add("");
            places.add(t.length());
            int i = 0;
            while (true) {
                int[] one = new int[4];
                for (int part = 0; part < signs.length; part++) {
                    boolean perhaps = part > 0;
                    if (perhaps && !words.get(i).equals(signs[part])) {
                        one[part + 1] = bounds[part][2];
                        continue;
                    }
                    if (!signs[part].isEmpty()) {
                        int kind = part > 0 ? 0 : words.get(i).length() == 1 ? signs[0].indexOf(words.get(i)) : -1;
                        if (kind < 0) {
                            return places.get(i);
                        }
                        one[0] = part > 0 ? one[0] : kind;
                        i++;
                    }
                    String number = words.get(i);
                    if (number.isEmpty() || no(number.charAt(0), '0', '9')) {
                        return places.get(i);
                    }
                    if (signs[part].equals("w") && number.length() > 1) {
                        return places.get(i) + (number.charAt(0) > '3' ? 0 : 1);
                    }
                    java.math.BigInteger v = new java.math.BigInteger(number);
                    if (v.bitLength() > 30 || no(v.intValue(), bounds[part][0], bounds[part][1])) {
                        return places.get(i);
                    }
                    one[part + 1] = v.intValue();
                    i++;
                }
                into.add(one);
                if (words.get(i).isEmpty()) {
                    return -1;
                }
                if (!words.get(i).equals(",") || into.size() == most) {
                    return places.get(i);
                }
                i++;
            }
        }

        int loft() {
            List<int[]> read = new ArrayList<>();
            int fault = read(read, new String[] {"pskt", "h", "w"}, new int[][] {{1, 60, 0}, {1, 99999, 99999}, {0, 3, 0}}, 8);
            if (fault >= 0) {
                return -20 - fault;
            }
            sieves = read;
            row.clear();
            return sieves.size();
        }

        int heap() {
            List<int[]> read = new ArrayList<>();
            int fault = read(read, new String[] {"", "*", "$"}, new int[][] {{1, 60, 0}, {0, 9999, 1}, {0, 99, 0}}, 6);
            if (fault >= 0) {
                return -20 - fault;
            }
            grains.clear();
            for (int[] g : read) {
                grains.add(new int[] {g[1], g[2], g[3]});
            }
            return grains.size();
        }

        int row() {
            String t = tape;
            tape = "";
            List<Integer> read = new ArrayList<>();
            for (int i = 0; i < t.length(); i++) {
                int s = t.charAt(i) - '0';
                if (t.charAt(i) == ' ') {
                    continue;
                }
                if (no(s, 0, sieves.size() - 1) || read.contains(s) || read.size() == 6) {
                    return -20 - i;
                }
                read.add(s);
            }
            row = read;
            return row.size();
        }

        int count(int what) {
            int amounts = grains.stream().mapToInt(g -> g[1]).sum();
            return no(what, 0, 4) ? -1 : new int[] {sieves.size(), grains.size(), row.size(), shakings, amounts}[what];
        }

        /** The heaps of a row, as lists of grains; the choking places come to a list, if there is one. */
        private List<List<Integer>> heaps(List<Integer> row, List<Integer> choking) {
            List<List<Integer>> heaps = new ArrayList<>();
            List<Integer> came = new ArrayList<>();
            for (int g = 0; g < grains.size(); g++) {
                if (grains.get(g)[1] > 0) {
                    came.add(g);
                }
            }
            for (int place = 0; place < row.size(); place++) {
                int[] s = sieves.get(row.get(place));
                List<Integer> stay = new ArrayList<>(), fall = new ArrayList<>();
                int weight = 0;
                for (int g : came) {
                    boolean falls = s[0] == 3 || grains.get(g)[0] <= s[1];
                    (falls ? fall : stay).add(g);
                    weight += falls ? 0 : grains.get(g)[1];
                }
                if (weight > s[2]) {
                    stay = came;
                    fall = new ArrayList<>();
                    if (choking != null) {
                        choking.add(place);
                    }
                }
                heaps.add(stay);
                came = fall;
            }
            heaps.add(came);
            return heaps;
        }

        private int amount(List<Integer> heap) {
            return heap.stream().mapToInt(g -> grains.get(g)[1]).sum();
        }

        private int value(List<Integer> heap) {
            return heap.isEmpty() ? 0 : amount(heap) * heap.stream().mapToInt(g -> grains.get(g)[2]).min().getAsInt();
        }

        private int valueOf(List<Integer> row) {
            return heaps(row, null).stream().mapToInt(this::value).sum();
        }

        int found(int k, int what) {
            if (no(k, 0, row.size()) || no(what, 0, 2)) {
                return -1;
            }
            List<Integer> heap = heaps(row, null).get(k);
            return what == 0 ? heap.stream().mapToInt(g -> 1 << g).sum() : what == 1 ? amount(heap) : value(heap);
        }

        private int heapOf(int g) {
            List<List<Integer>> heaps = heaps(row, null);
            for (int k = 0; k < heaps.size(); k++) {
                if (heaps.get(k).contains(g)) {
                    return k;
                }
            }
            return -4;
        }

        int where(int g) {
            return no(g, 0, grains.size() - 1) ? -1 : heapOf(g);
        }

        int chokes() {
            List<Integer> choking = new ArrayList<>();
            heaps(row, choking);
            return choking.stream().mapToInt(p -> 1 << p).sum();
        }

        int shake(List<Integer> row) {
            List<List<Integer>> heaps = heaps(row, null);
            int value = valueOf(row);
            for (int p = 0; p < row.size(); p++) {
                int[] s = sieves.get(row.get(p));
                boolean falls = false;
                for (int k = p + 1; k < heaps.size(); k++) {
                    falls |= !heaps.get(k).isEmpty();
                }
                if (falls) {
                    s[1] = Math.min(60, s[1] + s[3] * new int[] {1, 0, 2, 2}[s[0]]);
                }
            }
            shakings++;
            return value;
        }

        int lasts() {
            Model m = likeness(this);
            List<List<Integer>> first = heaps(row, null);
            int n = 0;
            while (n < 200 && m.heaps(row, null).equals(first)) {
                m.shake(row);
                n++;
            }
            return n;
        }

        /** All rows of just n sieves, in their order. */
        private List<List<Integer>> rows(int n) {
            List<List<Integer>> rows = new ArrayList<>();
            if (n == 0) {
                rows.add(new ArrayList<>());
                return rows;
            }
            for (List<Integer> r : rows(n - 1)) {
                for (int s = 0; s < sieves.size(); s++) {
                    if (!r.contains(s)) {
                        List<Integer> longer = new ArrayList<>(r);
                        longer.add(s);
                        rows.add(longer);
                    }
                }
            }
            return rows;
        }

        private List<Integer> bestRow(int k) {
            List<Integer> best = null;
            int most = -1;
            for (int n = 0; n <= k; n++) {
                for (List<Integer> r : rows(n)) {
                    int value = valueOf(r);
                    if (value > most) {
                        most = value;
                        best = r;
                    }
                }
            }
            return best;
        }

        int best(int k, int i) {
            if (no(k, 0, 4) || no(i, -2, 3)) {
                return -1;
            }
            List<Integer> r = bestRow(k);
            return i == -2 ? valueOf(r) : i == -1 ? r.size() : i < r.size() ? r.get(i) : -4;
        }

        int parted(int set, int i) {
            if (no(set, 0, (1 << grains.size()) - 1) || no(i, -1, 3)) {
                return -1;
            }
            for (int n = 0; n <= 4; n++) {
                for (List<Integer> r : rows(n)) {
                    if (heaps(r, null).stream().allMatch(h -> h.stream().filter(g -> (set >> g & 1) == 1).count() < 2)) {
                        return i == -1 ? n : i < n ? r.get(i) : -4;
                    }
                }
            }
            return -4;
        }

        int season(int n, int k) {
            if (no(n, 1, 20) || no(k, 0, 3)) {
                return -1;
            }
            int value = 0;
            for (int day = 0; day < n; day++) {
                value += shake(bestRow(k));
            }
            return value;
        }

        long fits(int heap) {
            if (no(heap, 0, row.size())) {
                return -1;
            }
            long sizes = 0;
            for (int size = 60; size >= 1; size--) {
                Model m = likeness(this);
                m.grains.clear();
                m.grains.add(new int[] {size, 1, 0});
                sizes = sizes * 2 + (m.heapOf(0) == heap ? 1 : 0);
            }
            return sizes;
        }

        int shares(int n, int w, int p, int q) {
            if (no(n, 1, 9999) || no(w, 1, 9999999) || no(p, 1, 999) || no(q, 1, 999) || p == q) {
                return -1;
            }
            for (int of = 0; of <= n; of++) {
                if (of * p + (n - of) * q == w) {
                    return of;
                }
            }
            return -4;
        }

        int image() {
            kept = likeness(this);
            return 1;
        }

        int restore() {
            if (kept == null) {
                return -4;
            }
            Model c = likeness(kept);
            grains = c.grains;
            sieves = c.sieves;
            row = c.row;
            shakings = c.shakings;
            return 1;
        }

        private int refused(int sheet, int lane, int from, int n) {
            return sheets[sheet] == null ? -11 : lanes[sheet] != lane ? -12
                : from < 0 || (long) from + n > sheets[sheet].length ? -13 : 0;
        }

        private boolean as(int[] sheet, int from) {
            for (int g = 0; g < grains.size(); g++) {
                if (grains.get(g)[1] > 0 && heapOf(g) != sheet[from + g]) {
                    return false;
                }
            }
            return true;
        }

        long meshes(int sieve, int sheet, int lane, int from) {
            if (no(sieve, 0, sieves.size() - 1) || no(sheet, 0, 3) || no(lane, 0, 2)) {
                return -1;
            }
            if (!row.contains(sieve) || sieves.get(sieve)[0] == 3) {
                return -2;
            }
            int refused = refused(sheet, lane, from, grains.size());
            if (refused != 0) {
                return refused;
            }
            long set = 0;
            for (int mesh = 60; mesh >= 1; mesh--) {
                Model m = likeness(this);
                m.sieves.get(sieve)[1] = mesh;
                set = set * 2 + (m.as(sheets[sheet], from) ? 1 : 0);
            }
            return set;
        }

        int torn(int sheet, int lane, int from) {
            if (no(sheet, 0, 3) || no(lane, 0, 2)) {
                return -1;
            }
            int refused = refused(sheet, lane, from, grains.size());
            if (refused != 0) {
                return refused;
            }
            int set = as(sheets[sheet], from) ? 128 : 0;
            for (int p = 0; p < row.size(); p++) {
                Model m = likeness(this);
                m.sieves.get(row.get(p))[0] = 3;
                set += m.as(sheets[sheet], from) ? 1 << p : 0;
            }
            return set;
        }

        int sheet(int sheet, int lane, int n) {
            if (no(sheet, 0, 3) || no(lane, 0, 2) || n > 24) {
                return -1;
            }
            if (n < 0) {
                return -14;
            }
            sheets[sheet] = new int[n];
            lanes[sheet] = lane;
            return n;
        }

        int drop(int sheet) {
            if (no(sheet, 0, 3)) {
                return -1;
            }
            int had = sheets[sheet] == null ? -11 : sheets[sheet].length;
            sheets[sheet] = null;
            lanes[sheet] = -1;
            return had;
        }

        private static int cut(int lane, int v) {
            return lane == 0 ? (byte) v : lane == 1 ? (short) v : v;
        }

        int item(int sheet, int lane, int i, int v) {
            if (no(sheet, 0, 3) || no(lane, 0, 2)) {
                return -1;
            }
            int refused = refused(sheet, lane, i, 1);
            if (refused == 0) {
                sheets[sheet][i] = cut(lane, v);
            }
            return refused == 0 ? 1 : refused;
        }

        int film(int sheet, int lane, int from) {
            if (no(sheet, 0, 3) || no(lane, 0, 2)) {
                return -1;
            }
            int refused = refused(sheet, lane, from, grains.size());
            for (int g = 0; refused == 0 && g < grains.size(); g++) {
                sheets[sheet][from + g] = heapOf(g);
            }
            return refused == 0 ? grains.size() : refused;
        }

        int copy(int from, int i, int to, int j, int n) {
            if (no(from, 0, 3) || no(to, 0, 3)) {
                return -1;
            }
            if (sheets[from] == null || sheets[to] == null) {
                return -11;
            }
            if (lanes[from] != lanes[to]) {
                return -12;
            }
            if (n < 0 || refused(from, lanes[from], i, n) != 0 || refused(to, lanes[to], j, n) != 0) {
                return -13;
            }
            int[] taken = sheets[from].clone();
            for (int k = 0; k < n; k++) {
                sheets[to][j + k] = taken[i + k];
            }
            return n;
        }
    }
}
