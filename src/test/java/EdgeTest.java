/**
 * For each promise: the least and the greatest of each number and those just outside, each refusal (the first of
 * several, and that it changes nothing), what is empty and what is full.
 */
public final class EdgeTest extends States {
    private static final int[] ANY_SIZE = {1, 60}, ANY_AMOUNT = {0, 9999}, ANY_PRICE = {0, 99}, ANY_HELD = {1, 99999};
    private static final int[] ANY_KIND = {0, 3}, ANY_WEAR = {0, 3}, ANY_LANE = {0, 2}, ANY_SHEET = {0, 3};
    private static final int[] STATES = {EMPTY, SOME, FULLEST};

    // Each call of the face by its numbers.
    private static final Call GRAIN = (x, a) -> x.grain(a[0], a[1], a[2]);
    private static final Call SET = (x, a) -> x.set(a[0], a[1], a[2]);
    private static final Call SIEVE = (x, a) -> x.sieve(a[0], a[1], a[2], a[3]);
    private static final Call TOLD = (x, a) -> x.told(a[0], a[1]);
    private static final Call MEND = (x, a) -> x.mend(a[0], a[1]);
    private static final Call COUNT = (x, a) -> x.count(a[0]);
    private static final Call FOUND = (x, a) -> x.found(a[0], a[1]);
    private static final Call WHERE = (x, a) -> x.where(a[0]);
    private static final Call BEST = (x, a) -> x.best(a[0], a[1]);
    private static final Call PARTED = (x, a) -> x.parted(a[0], a[1]);
    private static final Call SEASON = (x, a) -> x.season(a[0], a[1]);
    private static final Call FITS = (x, a) -> x.fits(a[0]);
    private static final Call SHARES = (x, a) -> x.shares(a[0], a[1], a[2], a[3]);
    private static final Call MESHES = (x, a) -> x.meshes(a[0], a[1], a[2], a[3]);
    private static final Call TORN = (x, a) -> x.torn(a[0], a[1], a[2]);
    private static final Call SHEET = (x, a) -> x.sheet(a[0], a[1], a[2]);
    private static final Call DROP = (x, a) -> x.drop(a[0]);
    private static final Call ITEM = (x, a) -> x.item(a[0], a[1], a[2], a[3]);
    private static final Call FILM = (x, a) -> x.film(a[0], a[1], a[2]);
    private static final Call COPY = (x, a) -> x.copy(a[0], a[1], a[2], a[3], a[4]);

    public static void main(String[] args) {
        runPromises(EdgeTest::newObject, EdgeTest::grain, EdgeTest::set, EdgeTest::sieve, EdgeTest::told,
            EdgeTest::mend, EdgeTest::type, EdgeTest::loft, EdgeTest::heap, EdgeTest::row,
            EdgeTest::count, EdgeTest::found, EdgeTest::where, EdgeTest::chokes, EdgeTest::shake,
            EdgeTest::lasts, EdgeTest::best, EdgeTest::parted, EdgeTest::season, EdgeTest::fits,
            EdgeTest::shares, EdgeTest::image, EdgeTest::restore, EdgeTest::meshes, EdgeTest::torn,
            EdgeTest::sheet, EdgeTest::drop, EdgeTest::item, EdgeTest::film, EdgeTest::copy);
    }

    // ---- 1 to 11: grains, sieves, texts

    private static void newObject() {
        for (int state : STATES) {
            dueSame("nothing", state, made(state), made(state));
        }
        for (int state : new int[] {SOME, FULLEST}) {
            String seen = look(made(state), state);
            due("all sheets hold what was put on them, as seen in " + seen, seen.contains("changed") ? 1 : 0, 0);
            due("some sheets are seen in " + seen, seen.contains("as it was") ? 1 : 0, 1);
        }
        // Each call that takes something that there is not.
        dueIdle(EMPTY, "set", SET, BAD, 0, 0, 1);
        dueIdle(EMPTY, "told", TOLD, BAD, 0, 0);
        dueIdle(EMPTY, "mend", MEND, BAD, 0, 1);
        dueIdle(EMPTY, "found", FOUND, BAD, 1, 0);
        dueIdle(EMPTY, "where", WHERE, BAD, 0);
        dueIdle(EMPTY, "parted", PARTED, BAD, 1, -1);
        dueIdle(EMPTY, "fits", FITS, BAD, 1);
        dueIdle(EMPTY, "meshes", MESHES, BAD, 0, 0, 0, 0);
        for (int s = 0; s < 4; s++) {
            dueIdle(EMPTY, "torn", TORN, NULL, s, 0, 0);
            dueIdle(EMPTY, "drop", DROP, NULL, s);
            dueIdle(EMPTY, "item", ITEM, NULL, s, 0, 0, 0);
            dueIdle(EMPTY, "film", FILM, NULL, s, 0, 0);
            dueIdle(EMPTY, "copy", COPY, NULL, s, 0, s, 0, 0);
        }
        dueIdle(EMPTY, "restore", (x, a) -> x.restore(), NONE);
        dueIdle(EMPTY, "chokes", (x, a) -> x.chokes(), 0);
        dueIdle(EMPTY, "lasts", (x, a) -> x.lasts(), 200);
        dueIdle(EMPTY, "row", (x, a) -> x.row(), 0);
        dueIdle(EMPTY, "loft", (x, a) -> x.loft(), -20);
        dueIdle(EMPTY, "heap", (x, a) -> x.heap(), -20);
        // One object's state is not another's.
        SieveLoft x = made(EMPTY);
        made(FULLEST);
        dueSame("another object", EMPTY, x, made(EMPTY));
    }

    private static void grain() {
        dueBounds(EMPTY, "grain", GRAIN, of(30, 5, 5), ANY_SIZE, ANY_AMOUNT, ANY_PRICE);
        dueBounds(SOME, "grain", GRAIN, of(30, 5, 5), ANY_SIZE, ANY_AMOUNT, ANY_PRICE);
        dueIdle(FULLEST, "grain", GRAIN, FULL, 30, 5, 5);
        dueIdle(FULLEST, "grain", GRAIN, BAD, 0, 5, 5);
        dueIdle(FULLEST, "grain", GRAIN, BAD, 30, 10000, 5);
        dueIdle(FULLEST, "grain", GRAIN, BAD, 30, 5, 100);
        int[][] edges = {{1, 0, 0}, {1, 9999, 99}, {60, 0, 99}, {60, 9999, 0}, {60, 9999, 99}, {1, 1, 1}};
        SieveLoft x = new SieveLoft();
        for (int g = 0; g < 6; g++) {
            due("grain", x.grain(edges[g][0], edges[g][1], edges[g][2]), g);
            due("count(1)", x.count(1), g + 1);
        }
        for (int g = 0; g < 6; g++) {
            for (int what = 0; what < 3; what++) {
                due("set(" + g + ", " + what + ", 1)", x.set(g, what, 1), edges[g][what]);
            }
        }
        // As they come, behind those of a heap, too; the place of one goes when a heap comes instead.
        heap(x, "1,2,3,4,5");
        due("the sixth", x.grain(6, 1, 1), 5);
        due("the seventh", x.grain(7, 1, 1), FULL);
        heap(x, "9");
        due("the second", x.grain(7, 1, 1), 1);
        // Nothing else changes.
        SieveLoft y = withEmptyTape(SOME), z = withEmptyTape(SOME);
        due("grain", y.grain(7, 0, 1), 4);
        heap(y, "50*3$9,30*4$5,15*2$7,7*0$1");
        heap(z, "50*3$9,30*4$5,15*2$7,7*0$1");
        dueSame("grain and the old heap", SOME, y, z);
    }

    private static void set() {
        int[][] bounds = {ANY_SIZE, ANY_AMOUNT, ANY_PRICE};
        for (int what = 0; what < 3; what++) {
            dueBounds(SOME, "set", SET, of(1, what, 1), of(0, 3), of(0, 2), bounds[what]);
            dueBounds(FULLEST, "set", SET, of(1, what, 1), of(0, 5), of(0, 2), bounds[what]);
            dueIdle(EMPTY, "set", SET, BAD, 0, what, 1);
        }
        // To what it was, least and greatest, for the first grain and the last one.
        for (int g : new int[] {0, 5}) {
            SieveLoft x = made(FULLEST);
            for (int what = 0; what < 3; what++) {
                int was = x.set(g, what, bounds[what][0]);
                due("set to the greatest", x.set(g, what, bounds[what][1]), bounds[what][0]);
                due("set to what it is", x.set(g, what, bounds[what][1]), bounds[what][1]);
                due("set back", x.set(g, what, was), bounds[what][1]);
            }
            dueSame("set, and back", FULLEST, x, made(FULLEST));
        }
    }

    private static void sieve() {
        int[][] bounds = {ANY_KIND, ANY_SIZE, ANY_HELD, ANY_WEAR};
        dueBounds(EMPTY, "sieve", SIEVE, of(1, 30, 5, 1), bounds);
        dueBounds(SOME, "sieve", SIEVE, of(1, 30, 5, 1), bounds);
        dueIdle(FULLEST, "sieve", SIEVE, FULL, 1, 30, 5, 1);
        for (int i = 0; i < 4; i++) {
            dueIdle(FULLEST, "sieve", SIEVE, BAD, with(of(1, 30, 5, 1), i, bounds[i][1] + 1));
        }
        int[][] edges = {{0, 1, 1, 0}, {0, 60, 99999, 3}, {1, 1, 99999, 0}, {1, 60, 1, 3}, {2, 1, 1, 3}, {2, 60, 99999, 0},
            {3, 1, 99999, 3}, {3, 60, 1, 0}};
        SieveLoft x = new SieveLoft();
        for (int s = 0; s < 8; s++) {
            due("sieve", x.sieve(edges[s][0], edges[s][1], edges[s][2], edges[s][3]), s);
            due("count(0)", x.count(0), s + 1);
        }
        for (int s = 0; s < 8; s++) {
            dueSieve(x, s, edges[s][0], edges[s][1], edges[s][2], edges[s][3]);
        }
        // Behind those of a loft, too; the row stays.
        loft(x, "p1,p2,p3,p4,p5,p6,p7");
        row(x, "60");
        due("the eighth", x.sieve(2, 8, 8, 1), 7);
        due("the ninth", x.sieve(2, 8, 8, 1), FULL);
        due("count(2)", x.count(2), 2);
        dueSieve(x, 6, 0, 7, 99999, 0);
        dueSieve(x, 7, 2, 8, 8, 1);
    }

    private static void told() {
        dueBounds(SOME, "told", TOLD, of(1, 1), of(0, 3), of(0, 3));
        dueBounds(FULLEST, "told", TOLD, of(1, 1), of(0, 7), of(0, 3));
        for (int what = 0; what < 4; what++) {
            dueIdle(EMPTY, "told", TOLD, BAD, 0, what);
        }
        // The plain one was shaken, and the torn one, through which all falls.
        SieveLoft x = made(SOME);
        dueSieve(x, 0, 0, 41, 9, 1);
        dueSieve(x, 1, 2, 24, 99999, 2);
        dueSieve(x, 2, 1, 10, 99999, 0);
        dueSieve(x, 3, 3, 11, 99999, 3);
    }

    private static void mend() {
        dueBounds(SOME, "mend", MEND, of(1, 5), of(0, 3), ANY_SIZE);
        dueBounds(FULLEST, "mend", MEND, of(1, 5), of(0, 7), ANY_SIZE);
        dueIdle(EMPTY, "mend", MEND, BAD, 0, 1);
        dueIdle(SOME, "mend", MEND, NOT, 3, 1);
        dueIdle(SOME, "mend", MEND, NOT, 3, 60);
        dueIdle(FULLEST, "mend", MEND, NOT, 6, 30);
        dueIdle(SOME, "BAD ahead of NOT", MEND, BAD, 3, 0);
        dueIdle(SOME, "BAD ahead of NOT", MEND, BAD, 3, 61);
        SieveLoft x = made(FULLEST);
        int[] mesh = {50, 45, 40, 35, 30, 25, 20, 15};
        for (int s = 0; s < 8; s++) {
            due("mend(" + s + ", 1)", x.mend(s, 1), s == 6 ? NOT : mesh[s]);
            due("mend(" + s + ", 60)", x.mend(s, 60), s == 6 ? NOT : 1);
            due("mend(" + s + ", as it was)", x.mend(s, mesh[s]), s == 6 ? NOT : 60);
        }
        dueSame("mend, and back", FULLEST, x, made(FULLEST));
    }

    private static void type() {
        long blanks = 0x2020202020202020L;
        Call type = (x, a) -> x.type(blanks, a[0]);
        dueBounds(EMPTY, "type", type, of(1), of(1, 8));
        dueBounds(SOME, "type", type, of(1), of(1, 8));
        dueBounds(FULLEST, "type", type, of(1), of(1, 8));
        for (int n = 1; n <= 8; n++) {
            for (int i = 0; i < 8; i++) {
                dueByteInPlace(n, i, blanks & ~(255L << 8 * i));
            }
            dueIdle(FULLEST, "type", type, FULL, n);
            dueIdle(FULLEST, "BAD ahead of FULL", (x, a) -> x.type(blanks & ~(255L << 8 * (a[0] - 1)), a[0]), BAD, n);
            // Up to 120 and no further.
            SieveLoft x = new SieveLoft();
            due("up to 120 less " + n, typed(x, " ".repeat(120 - n)), 120 - n);
            if (n < 8) {
                due("one too many", x.type(blanks, n + 1), FULL);
            }
            due("just enough", x.type(blanks, n), 120);
            due("one too many", x.type(blanks, 1), FULL);
            due("still 120 of them", x.loft(), -140);
        }
        // All eight, the highest first; and behind what is there.
        SieveLoft x = new SieveLoft();
        due("p12h34w1", x.type(0x7031326833347731L, 8), 8);
        due(",s56h78w", x.type(0x2C73353668373877L, 8), 16);
        due("2", x.type(0x32, 1), 17);
        due("loft()", x.loft(), 2);
        dueSieve(x, 0, 0, 12, 34, 1);
        dueSieve(x, 1, 1, 56, 78, 2);
    }

    /** The byte of a place, the lowest 0, counts just if it is one of the n lowest. */
    private static void dueByteInPlace(int n, int place, long others) {
        for (int b : new int[] {0, 31, 127, 128, 160, 255}) {
            long w = others | (long) b << 8 * place;
            Call type = (x, a) -> x.type(w, n);
            if (place < n) {
                dueIdle(SOME, "type " + Long.toHexString(w), type, BAD, n);
            } else {
                dueOf(EMPTY, "type " + Long.toHexString(w), type, n, n);
            }
        }
        for (int b : new int[] {32, 126}) {
            dueOf(EMPTY, "type", (x, a) -> x.type(others | (long) b << 8 * place, n), n, n);
        }
    }

    private static void loft() {
        String eight = "p1,s2,k3,t4,p5,s6,k7,t8";
        Call read = (x, a) -> x.loft();
        dueFault(EMPTY, read, "", 0);
        dueFault(EMPTY, read, "p", 1);
        for (int state : new int[] {SOME, FULLEST}) {
            dueFault(state, read, "", 0);
            dueFault(state, read, " ".repeat(120), 120);
            dueFault(state, read, eight + ",", 23);
            dueFault(state, read, eight + ",p9", 23);
            dueFault(state, read, " " + eight + " ,p9", 25);
            dueFault(state, read, "p5," + " ".repeat(117), 120);
            dueFault(state, read, "p5" + " ".repeat(117) + "x", 119);
            dueFault(state, read, "p" + "0".repeat(119), 1);
            dueFault(state, read, "p" + "9".repeat(119), 1);
            dueFault(state, read, "p5h" + "9".repeat(117), 3);
            dueFault(state, read, "p5h" + "0".repeat(117), 3);
            dueFault(state, read, "p9,s61", 4);
            dueFault(state, read, "p9,s60h100000w4", 7);
            dueFault(state, read, "x,p61", 0);
            dueFault(state, read, "p61,x", 1);
            dueFault(state, read, "p4294967301", 1);
            dueFault(state, read, "p18446744073709551621", 1);
            dueFault(state, read, "p5h4294967301", 3);
        }
        for (int c = 33; c <= 126; c++) {
            String s = String.valueOf((char) c);
            boolean digit = c >= '0' && c <= '9', kind = "pskt".contains(s);
            dueRead(read, s, kind ? -21 : -20);
            dueRead(read, "p" + s, c >= '1' && c <= '9' ? 1 : -21);
            dueRead(read, "p5" + s, digit ? 1 : ",hw".contains(s) ? -23 : -22);
            dueRead(read, "p5 " + s, ",hw".contains(s) ? -24 : -23);
            dueRead(read, "p6" + s, c == '0' ? 1 : digit ? -21 : ",hw".contains(s) ? -23 : -22);
            dueRead(read, "p5h" + s, c >= '1' && c <= '9' ? 1 : -23);
            dueRead(read, "p5h9" + s, digit ? 1 : ",w".contains(s) ? -25 : -24);
            dueRead(read, "p5h9 " + s, ",w".contains(s) ? -26 : -25);
            dueRead(read, "p5w" + s, c >= '0' && c <= '3' ? 1 : -23);
            dueRead(read, "p5w3" + s, c == ',' ? -25 : -24);
            dueRead(read, "p5h9w3 " + s, c == ',' ? -28 : -27);
            dueRead(read, "p5," + s, kind ? -24 : -23);
            dueRead(read, "p5,s" + s, c >= '1' && c <= '9' ? 2 : -24);
        }
        // The least and the greatest, zeros ahead; what is not told.
        dueLoft("p1", 0, 1, 99999, 0);
        dueLoft("s60", 1, 60, 99999, 0);
        dueLoft("k1h1w0", 2, 1, 1, 0);
        dueLoft("t60h99999w3", 3, 60, 99999, 3);
        dueLoft("p07w1", 0, 7, 99999, 1);
        dueLoft("p7h0000000000000099999", 0, 7, 99999, 0);
        dueLoft("p" + "0".repeat(117) + "60", 0, 60, 99999, 0);
        dueLoft("p7h" + "0".repeat(114) + "1w2", 0, 7, 1, 2);
        dueLoft("p7" + " ".repeat(118), 0, 7, 99999, 0);
        dueLoft(" ".repeat(112) + "k9 h8 w2", 2, 9, 8, 2);
        due("eight, blanks between", loft(new SieveLoft(), " p1 , s2 , k3 , t4 , p5 , s6 , k7 , t8 "), 8);
        // In place of all, and the row is empty; grains, sheets, shakings, the image stay.
        for (int state : STATES) {
            SieveLoft x = withEmptyTape(state), y = withEmptyTape(state);
            due("eight", loft(x, eight), 8);
            dueSieve(x, 7, 3, 8, 99999, 0);
            due("the row", x.count(2), 0);
            due("one", loft(x, "p9"), 1);
            due("the second", x.told(1, 1), BAD);
            loft(y, "p9");
            row(y, "");
            dueSame("the later loft", state, x, y);
        }
    }

    private static void dueRead(Call read, String text, int want) {
        SieveLoft x = new SieveLoft();
        typed(x, text);
        due("\"" + text + "\"", read.on(x), want);
        due("the length of the tape behind \"" + text + "\"", x.type(' ', 1), 1);
    }

    private static void dueLoft(String text, int kind, int mesh, int holds, int wear) {
        SieveLoft x = new SieveLoft();
        due("\"" + text + "\"", loft(x, text), 1);
        dueSieve(x, 0, kind, mesh, holds, wear);
    }

    private static void heap() {
        String six = "1,2,3,4,5,6";
        Call read = (x, a) -> x.heap();
        dueFault(EMPTY, read, "", 0);
        dueFault(EMPTY, read, "5,", 2);
        for (int state : new int[] {SOME, FULLEST}) {
            dueFault(state, read, "", 0);
            dueFault(state, read, " ".repeat(120), 120);
            dueFault(state, read, six + ",", 11);
            dueFault(state, read, six + ",7", 11);
            dueFault(state, read, " " + six + " ,7", 13);
            dueFault(state, read, "5," + " ".repeat(118), 120);
            dueFault(state, read, "5" + " ".repeat(118) + "x", 119);
            dueFault(state, read, "0".repeat(120), 0);
            dueFault(state, read, "9".repeat(120), 0);
            dueFault(state, read, "5*" + "9".repeat(118), 2);
            dueFault(state, read, "5$" + "9".repeat(118), 2);
            dueFault(state, read, "9,61", 2);
            dueFault(state, read, "9,60*10000$100", 5);
            dueFault(state, read, "9,60*9999$100", 10);
            dueFault(state, read, "61,x", 0);
            dueFault(state, read, "4294967301", 0);
            dueFault(state, read, "5*4294967301", 2);
            dueFault(state, read, "5$18446744073709551621", 2);
        }
        for (int c = 33; c <= 126; c++) {
            String s = String.valueOf((char) c);
            boolean digit = c >= '0' && c <= '9';
            dueRead(read, s, c >= '1' && c <= '9' ? 1 : -20);
            dueRead(read, "5" + s, digit ? 1 : ",*$".contains(s) ? -22 : -21);
            dueRead(read, "5 " + s, ",*$".contains(s) ? -23 : -22);
            dueRead(read, "6" + s, c == '0' ? 1 : digit ? -20 : ",*$".contains(s) ? -22 : -21);
            dueRead(read, "5*" + s, digit ? 1 : -22);
            dueRead(read, "5*999" + s, digit ? 1 : ",$".contains(s) ? -26 : -25);
            dueRead(read, "5*9999" + s, digit ? -22 : ",$".contains(s) ? -27 : -26);
            dueRead(read, "5*9 " + s, ",$".contains(s) ? -25 : -24);
            dueRead(read, "5$" + s, digit ? 1 : -22);
            dueRead(read, "5$9" + s, digit ? 1 : c == ',' ? -24 : -23);
            dueRead(read, "5$99" + s, digit ? -22 : c == ',' ? -25 : -24);
            dueRead(read, "5*9$9 " + s, c == ',' ? -27 : -26);
            dueRead(read, "5," + s, c >= '1' && c <= '9' ? 2 : -22);
        }
        dueHeap("1", 1, 1, 0);
        dueHeap("60", 60, 1, 0);
        dueHeap("1*0$0", 1, 0, 0);
        dueHeap("60*9999$99", 60, 9999, 99);
        dueHeap("7$3", 7, 1, 3);
        dueHeap("007*000009999$0099", 7, 9999, 99);
        dueHeap("0".repeat(118) + "60", 60, 1, 0);
        dueHeap("7*" + "0".repeat(116) + "$0", 7, 0, 0);
        dueHeap("7$" + "0".repeat(117) + "9", 7, 1, 9);
        dueHeap(" ".repeat(114) + "7 * 8 ", 7, 8, 0);
        // In place of all; sieves, the row, sheets, shakings, the image stay.
        for (int state : STATES) {
            SieveLoft x = withEmptyTape(state), y = withEmptyTape(state);
            due("six", heap(x, six), 6);
            due("one", heap(x, "9*8$7"), 1);
            due("the second", x.where(1), BAD);
            due("the row", x.count(2), made(state).count(2));
            heap(y, "9*8$7");
            dueSame("the later heap", state, x, y);
        }
    }

    private static void dueHeap(String text, int size, int amount, int price) {
        SieveLoft x = new SieveLoft();
        due("\"" + text + "\"", heap(x, text), 1);
        due("size of \"" + text + "\"", x.set(0, 0, 1), size);
        due("amount of \"" + text + "\"", x.set(0, 1, 1), amount);
        due("price of \"" + text + "\"", x.set(0, 2, 1), price);
    }

    private static void row() {
        Call read = (x, a) -> x.row();
        int[] sieves = {0, 4, 8};
        for (int state : STATES) {
            for (int c = 33; c <= 126; c++) {
                if (c < '0' || c >= '0' + sieves[state]) {
                    dueFault(state, read, String.valueOf((char) c), 0);
                } else {
                    SieveLoft x = withEmptyTape(state);
                    due("a sieve that there is", row(x, String.valueOf((char) c)), 1);
                }
            }
        }
        dueFault(SOME, read, "4", 0);
        dueFault(SOME, read, "0 12 4", 5);
        dueFault(SOME, read, "0,1", 1);
        dueFault(FULLEST, read, "8", 0);
        dueFault(FULLEST, read, "0123456", 6);
        dueFault(FULLEST, read, "012345 6", 7);
        dueFault(FULLEST, read, "012345x", 6);
        dueFault(FULLEST, read, " ".repeat(119) + "8", 119);
        for (int place = 0; place < 5; place++) {
            dueFault(FULLEST, read, "76543".substring(0, place + 1) + (7 - place), place + 1);
            dueFault(FULLEST, read, "7 6 5 4 3 ".substring(0, 2 * place + 2) + 7, 2 * place + 2);
        }
        String all = "765432";
        for (int n = 0; n <= 6; n++) {
            SieveLoft x = withEmptyTape(FULLEST);
            due("of " + n, row(x, all.substring(0, n)), n);
            due("count(2)", x.count(2), n);
            due("the last heap", x.fits(n + 1), BAD);
        }
        SieveLoft x = withEmptyTape(FULLEST);
        due("blanks", row(x, " ".repeat(120)), 0);
        due("none typed", x.row(), 0);
        due("blanks ahead", row(x, " ".repeat(114) + "024567"), 6);
        dueSame("the same row again", FULLEST, x, withEmptyTape(FULLEST));
    }

    private static void count() {
        int[][] due = {{0, 0, 0, 0, 0}, {4, 4, 3, 1, 9}, {8, 6, 6, 0, 39}};
        for (int state : STATES) {
            dueBounds(state, "count", COUNT, of(0), of(0, 4));
            for (int what = 0; what < 5; what++) {
                dueIdle(state, "count", COUNT, due[state][what], what);
            }
        }
        SieveLoft x = new SieveLoft();
        heap(x, "1*9999,1*9999,1*9999,1*9999,1*9999,1*9999");
        due("the most of amounts", x.count(4), 6 * 9999);
        // Each season day and each shaking, but nothing that is only asked.
        for (int i = 1; i <= 20; i++) {
            x.season(20, 0);
            x.shake();
            due("shakings", x.count(3), 21 * i);
        }
        x.lasts();
        x.best(4, -1);
        x.parted(0, -1);
        x.season(21, 0);
        x.season(20, 4);
        x.chokes();
        due("shakings", x.count(3), 420);
        x.image();
        x.shake();
        due("shakings", x.count(3), 421);
        x.restore();
        due("shakings", x.count(3), 420);
    }

    // ---- 12 to 19: shaking

    private static void found() {
        int[][][] due = {{{0, 0, 0}}, {{1, 3, 27}, {2, 4, 20}, {0, 0, 0}, {4, 2, 14}},
            {{1, 9, 81}, {2, 8, 64}, {4, 7, 49}, {8, 6, 36}, {0, 0, 0}, {16, 5, 25}, {32, 4, 16}}};
        for (int state : STATES) {
            dueBounds(state, "found", FOUND, of(0, 0), of(0, due[state].length - 1), of(0, 2));
            for (int k = 0; k < due[state].length; k++) {
                for (int what = 0; what < 3; what++) {
                    dueIdle(state, "found", FOUND, due[state][k][what], k, what);
                }
            }
        }
        String most = "60*9999$99,60*9999$99,60*9999$99,60*9999$99,60*9999$99,60*9999$99";
        SieveLoft x = mill("p60", most, "0");
        due("the most", x.found(1, 2), 5939406);
        due("none of the first", x.found(0, 2), 0);
        x.mend(0, 59);
        due("the most", x.found(0, 2), 5939406);
        x.set(3, 2, 1);
        due("by the cheapest", x.found(0, 2), 59994);
        x.set(5, 2, 0);
        due("by the cheapest", x.found(0, 2), 0);
        x.set(5, 1, 0);
        due("of amount 0 it is not in the heap", x.found(0, 2), 5 * 9999);
        due("of amount 0 it is not in the heap", x.found(0, 0), 31);
        for (int g = 0; g < 5; g++) {
            x.set(g, 1, 0);
        }
        for (int what = 0; what < 3; what++) {
            due("all of amount 0", x.found(0, what), 0);
            due("all of amount 0", x.found(1, what), 0);
        }
        // As wide as the mesh is falls, one wider stays; what it holds does not choke it, one more does.
        SieveLoft y = mill("p30h9", "30*1,31*9", "0");
        due("found(0, 0)", y.found(0, 0), 2);
        due("found(1, 0)", y.found(1, 0), 1);
        y.set(0, 0, 31);
        y.set(1, 0, 30);
        due("found(0, 0)", y.found(0, 0), 1);
        due("found(1, 0)", y.found(1, 0), 2);
        y.set(0, 1, 10);
        due("choked, all stay", y.found(0, 0), 3);
        due("choked, none falls", y.found(1, 0), 0);
        y.set(1, 0, 31);
        y.set(0, 1, 1);
        due("together too much", y.found(0, 1), 10);
        due("all stay in any case", y.found(0, 0), 3);
    }

    private static void where() {
        dueIdle(EMPTY, "where", WHERE, BAD, 0);
        dueBounds(SOME, "where", WHERE, of(0), of(0, 3));
        dueBounds(FULLEST, "where", WHERE, of(0), of(0, 5));
        int[] some = {0, 1, 3, NONE}, fullest = {0, 1, 2, 3, 5, 6};
        for (int g = 0; g < 4; g++) {
            dueIdle(SOME, "where", WHERE, some[g], g);
        }
        for (int g = 0; g < 6; g++) {
            dueIdle(FULLEST, "where", WHERE, fullest[g], g);
        }
        // An empty row has one heap; just of amount 0 a grain is in none.
        SieveLoft x = mill("p30h9", "30*1,31*0", "");
        due("where(0)", x.where(0), 0);
        due("where(1)", x.where(1), NONE);
        x.set(1, 1, 1);
        due("where(1)", x.where(1), 0);
        row(x, "0");
        due("where(0)", x.where(0), 1);
        due("where(1)", x.where(1), 0);
        x.set(1, 1, 10);
        due("choked", x.where(0), 0);
        x.set(0, 1, 0);
        due("of amount 0, of what choked, too", x.where(0), NONE);
    }

    private static void chokes() {
        for (int state : STATES) {
            dueIdle(state, "chokes", (x, a) -> x.chokes(), 0);
        }
        // Each of six places by turns: what stays on it is more than it holds, by one.
        for (int place = 0; place < 6; place++) {
            SieveLoft x = mill("p55h9,p45h9,p35h9,p25h9,p15h9,p5h9", "60,50,40,30,20,10", "012345");
            due("none", x.chokes(), 0);
            x.set(place, 1, 9);
            due("just what it holds", x.chokes(), 0);
            x.set(place, 1, 10);
            due("place " + place, x.chokes(), 1 << place);
            due("what came to it", x.found(place, 0), 63 >> place << place);
        }
        // The least and the most that a sieve can hold.
        SieveLoft y = mill("p5h1", "9*1,1*9999", "0");
        due("holds 1", y.chokes(), 0);
        y.set(0, 1, 2);
        due("holds 1", y.chokes(), 1);
        SieveLoft z = mill("p5h59993,p4h59994", "9*9999,9*9999,9*9999,9*9999,9*9999,9*9999", "0");
        due("one more than it holds", z.chokes(), 1);
        row(z, "1");
        due("just what it holds", z.chokes(), 0);
        // A sieve that is in the row no more does not choke, nor does one that never was.
        SieveLoft u = mill("p5h1,p50", "9*2", "1");
        due("never in the row", u.chokes(), 0);
        row(u, "10");
        due("in the row", u.chokes(), 2);
        row(u, "1");
        due("no more in the row", u.chokes(), 0);
        // Of a heap of two, neither alone is too much.
        SieveLoft v = mill("p5h9", "9*5,8*5", "0");
        due("together", v.chokes(), 1);
        v.set(1, 1, 0);
        due("alone", v.chokes(), 0);
    }

    private static void shake() {
        int[] times = {1, 0, 2, 2};
        for (int kind = 0; kind < 4; kind++) {
            for (int mesh : new int[] {1, 2, 53, 54, 55, 56, 57, 58, 59, 60}) {
                for (int wear = 0; wear < 4; wear++) {
                    SieveLoft x = new SieveLoft();
                    x.sieve(kind, mesh, 1, wear);
                    x.grain(1, 9999, 99);
                    row(x, "0");
                    due("shake()", x.shake(), 9999 * 99);
                    dueSieve(x, 0, kind, Math.min(60, mesh + times[kind] * wear), 1, wear);
                    due("shakings", x.count(3), 1);
                }
            }
        }
        // As wide as the mesh is falls, and the mesh gets wider; one wider does not, but through a torn one all does.
        for (int kind = 0; kind < 4; kind++) {
            SieveLoft x = new SieveLoft();
            x.sieve(kind, 20, 9, 3);
            x.grain(21, 9, 2);
            row(x, "0");
            due("shake()", x.shake(), 18);
            due("mesh", x.told(0, 1), kind == 3 ? 26 : 20);
            x.set(0, 0, 20);
            due("shake()", x.shake(), 18);
            due("mesh", x.told(0, 1), new int[] {23, 20, 26, 32}[kind]);
        }
        // What it holds does not choke it; one more does, and nothing falls.
        SieveLoft y = mill("p20h9w1,p30w1", "21*9$3,5*1$2", "01");
        due("shake()", y.shake(), 29);
        due("the first", y.told(0, 1), 21);
        due("the second", y.told(1, 1), 31);
        y.set(0, 0, 40);
        y.set(0, 1, 10);
        due("shake()", y.shake(), 22);
        due("the first", y.told(0, 1), 21);
        due("the second, to which nothing came", y.told(1, 1), 31);
        // Of six, in their order, each that lets something fall; the last one does not.
        SieveLoft z = made(FULLEST);
        due("shake()", z.shake(), 271);
        int[] mesh = {51, 45, 42, 35, 34, 28, 26, 15};
        for (int s = 0; s < 8; s++) {
            due("mesh of " + s, z.told(s, 1), mesh[s]);
        }
        due("amounts", z.count(4), 39);
        due("the row", z.count(2), 6);
        // Nothing to shake, or no sieve.
        SieveLoft v = new SieveLoft();
        due("nothing", v.shake(), 0);
        due("shakings", v.count(3), 1);
        v.grain(60, 9999, 99);
        due("an empty row", v.shake(), 9999 * 99);
        v.set(0, 1, 0);
        due("an amount of 0", v.shake(), 0);
        due("shakings", v.count(3), 3);
        SieveLoft w = mill("t30w3,k30w3,p30w3", "5*0$9", "012");
        due("an amount of 0", w.shake(), 0);
        for (int s = 0; s < 3; s++) {
            due("mesh of " + s, w.told(s, 1), 30);
        }
    }

    private static void lasts() {
        int[] due = {200, 2, 1};
        for (int state : STATES) {
            dueIdle(state, "lasts", (x, a) -> x.lasts(), due[state]);
        }
        due("the fewest", mill("p1w3", "1,4", "0").lasts(), 1);
        due("one more", mill("p1w3", "1,5", "0").lasts(), 2);
        due("the most that end", mill("p1w1", "1,60", "0").lasts(), 59);
        due("a wear of 0", mill("p1w0", "1,60", "0").lasts(), 200);
        due("wide as can be", mill("p60w3", "1,60", "0").lasts(), 200);
        due("no grains", mill("p1w1", "", "0").lasts(), 200);
        due("amounts of 0", mill("p1w3", "1*0,4*0", "0").lasts(), 200);
        due("an empty row", mill("p1w3", "1,4", "").lasts(), 200);
        due("what stays above comes to no lower one", mill("p40,p30,p20,p10,p5,p1w1", "1,60", "012345").lasts(), 200);
        due("the last of six", mill("t60,p59,p58,p57,p56,p1w1", "1,50", "012345").lasts(), 49);
        due("an amount of 0 does not count", mill("p1w3", "1,4*0", "0").lasts(), 200);
        due("the lower one chokes once more comes to it", mill("k10w3,p5h1", "3,30*2", "01").lasts(), 4);
        SieveLoft x = mill("p30w1", "35,10", "0");
        for (int left = 5; left > 0; left--) {
            due("from now on", x.lasts(), left);
            x.shake();
        }
        due("then all falls", x.lasts(), 200);
    }

    private static void best() {
        int[] value = {156, 228, 250, 259, 266};
        int[][] rows = {{}, {3}, {1, 5}, {0, 1, 5}, {0, 1, 3, 5}};
        for (int state : STATES) {
            dueBounds(state, "best", BEST, of(1, -2), of(0, 4), of(-2, 3));
        }
        for (int k = 0; k <= 4; k++) {
            dueIdle(FULLEST, "best", BEST, value[k], k, -2);
            dueIdle(FULLEST, "best", BEST, k, k, -1);
            dueIdle(EMPTY, "best", BEST, 0, k, -2);
            dueIdle(EMPTY, "best", BEST, 0, k, -1);
            for (int i = 0; i < 4; i++) {
                dueIdle(FULLEST, "best", BEST, i < k ? rows[k][i] : NONE, k, i);
                dueIdle(EMPTY, "best", BEST, NONE, k, i);
            }
        }
        dueIdle(FULLEST, "BAD ahead of NONE", BEST, BAD, 0, 4);
        dueIdle(FULLEST, "BAD ahead of NONE", BEST, BAD, 5, 3);
        // Sieves without grains, grains of amount 0, grains without sieves.
        due("no grains", mill("p9,p8", "", "01").best(4, -1), 0);
        due("amounts of 0", mill("p9,p8", "5*0$9,20*0$9", "01").best(4, -1), 0);
        SieveLoft x = mill("", "5*2$9,20*3$7", "");
        due("no sieves", x.best(4, -2), 35);
        due("no sieves", x.best(4, -1), 0);
        // Prices of 0: all rows are alike, so it is the empty one.
        due("worth nothing", mill("p9", "5*2,20*3", "0").best(4, -1), 0);
        // Alike by both sieves of eight: the first one; the last one, if it alone parts.
        SieveLoft y = mill("s60,s60,s60,s60,s60,s60,s60,s9", "5*2$9,20*3$7", "");
        due("the last of eight", y.best(4, 0), 7);
        due("alone", y.best(4, 1), NONE);
        y.mend(2, 19);
        due("the first of two", y.best(4, 0), 2);
        due("alone", y.best(4, 1), NONE);
        // A sieve that is there no more is in no row.
        SieveLoft u = mill("p60,p9", "5*2$9,20*3$7", "");
        due("the second parts", u.best(4, 0), 1);
        loft(u, "p60");
        due("there is one that does not", u.best(4, -1), 0);
        u.image();
        u.sieve(0, 9, 9, 0);
        due("the second parts", u.best(4, 0), 1);
        u.restore();
        due("there is one that does not", u.best(4, -1), 0);
        // The wider one comes first.
        SieveLoft z = mill("p30,p40,p10", "50$3,35$2,20$1", "");
        due("best(2, -1)", z.best(2, -1), 2);
        due("best(2, 0)", z.best(2, 0), 1);
        due("best(2, 1)", z.best(2, 1), 0);
        // By 0 and 1 as by 2 and 1: the first as a row.
        SieveLoft v = mill("p30,p10,p31", "50$2,20$4,5$1", "");
        due("best(2, -2)", v.best(2, -2), 7);
        due("best(2, 0)", v.best(2, 0), 0);
        due("best(2, 1)", v.best(2, 1), 1);
    }

    private static void parted() {
        dueBounds(EMPTY, "parted", PARTED, of(0, -1), of(0, 0), of(-1, 3));
        dueBounds(SOME, "parted", PARTED, of(1, -1), of(0, 15), of(-1, 3));
        dueBounds(FULLEST, "parted", PARTED, of(1, -1), of(0, 63), of(-1, 3));
        dueParted(EMPTY, 0);
        dueParted(SOME, 0);
        dueParted(SOME, 8);
        dueParted(SOME, 9);
        dueParted(SOME, 15, 0, 1);
        dueParted(SOME, 3, 0);
        dueParted(SOME, 6, 1);
        dueParted(FULLEST, 0);
        for (int g = 0; g < 6; g++) {
            dueParted(FULLEST, 1 << g);
        }
        dueParted(FULLEST, 33, 0);
        dueParted(FULLEST, 31, 0, 1, 3, 5);
        dueParted(FULLEST, 62, 1, 3, 5, 7);
        for (int i = -1; i < 4; i++) {
            dueIdle(FULLEST, "six need five sieves", PARTED, NONE, 63, i);
        }
        dueIdle(FULLEST, "BAD ahead of NONE", PARTED, BAD, 63, 4);
        // Two of one size are never parted; if one is of amount 0, there is nothing to part.
        SieveLoft x = mill("p5,p9", "7,7", "");
        due("of one size", x.parted(3, -1), NONE);
        x.set(0, 1, 0);
        due("one of amount 0", x.parted(3, -1), 0);
        due("one of amount 0", x.parted(3, 0), NONE);
        due("no sieves", mill("", "7,8", "").parted(3, -1), NONE);
        due("no sieves, one grain", mill("", "7,8", "").parted(2, -1), 0);
        // A sieve that is there no more parts nothing.
        SieveLoft u = mill("p60,p9", "5,20", "");
        due("the second", u.parted(3, 0), 1);
        loft(u, "p60");
        due("there is one that does not", u.parted(3, -1), NONE);
        // The last of eight, and of like ones the first.
        SieveLoft y = mill("s60,s60,s60,s60,s60,s60,s60,s9", "5,20", "");
        due("the last of eight", y.parted(3, 0), 7);
        y.mend(5, 19);
        due("the first of two", y.parted(3, 0), 5);
        due("alone", y.parted(3, 1), NONE);
    }

    /** Parted for a set is just this row. */
    private static void dueParted(int state, int set, int... row) {
        dueIdle(state, "parted", PARTED, row.length, set, -1);
        for (int i = 0; i < 4; i++) {
            dueIdle(state, "parted", PARTED, i < row.length ? row[i] : NONE, set, i);
        }
    }

    private static void season() {
        for (int state : STATES) {
            dueBounds(state, "season", SEASON, of(2, 1), of(1, 20), of(0, 3));
        }
        int[] value = {156, 228, 250, 259};
        for (int k = 0; k <= 3; k++) {
            dueOf(FULLEST, "season", SEASON, value[k], 1, k);
            dueOf(EMPTY, "season", SEASON, 0, 20, k);
        }
        dueOf(FULLEST, "season", SEASON, 20 * 156, 20, 0);
        // By the empty row only the shakings change; by a row its meshes do, too, though it is not the row.
        for (int state : STATES) {
            SieveLoft x = withEmptyTape(state), y = withEmptyTape(state);
            x.season(20, 0);
            due("shakings", x.count(3), y.count(3) + 20);
            row(x, "");
            row(y, "");
            for (int i = 0; i < 20; i++) {
                y.shake();
            }
            dueSame("a season by the empty row", state, x, y);
        }
        SieveLoft x = made(FULLEST), y = made(FULLEST);
        due("by 3", x.season(1, 1), 228);
        y.shake();
        due("by a row of three", y.season(1, 3), 257);
        int[] mesh = {50, 45, 40, 35, 30, 25, 20, 15};
        for (int s = 0; s < 8; s++) {
            due("steel is no wider: mesh of " + s, x.told(s, 1), mesh[s]);
        }
        due("the row", x.found(5, 0), 16);
        // The most that a season can be worth.
        SieveLoft z = mill("p59", "60*9999$99,60*9999$99,60*9999$99,60*9999$99,60*9999$99,60*9999$99", "0");
        due("the most", z.season(20, 3), 20 * 5939406);
        due("shakings", z.count(3), 20);
    }

    // ---- 20 to 23: what was

    private static void fits() {
        dueBounds(EMPTY, "fits", FITS, of(0), of(0, 0));
        dueBounds(SOME, "fits", FITS, of(0), of(0, 3));
        dueBounds(FULLEST, "fits", FITS, of(0), of(0, 6));
        dueIdle(EMPTY, "fits", FITS, ALL_60, 0);
        long[] some = {bits(42, 60), bits(25, 41), 0, bits(1, 24)};
        for (int k = 0; k < 4; k++) {
            dueIdle(SOME, "fits", FITS, some[k], k);
        }
        long[] fullest = {bits(51, 60), bits(41, 50), bits(31, 40), bits(26, 30), 0, bits(16, 25), bits(1, 15)};
        for (int k = 0; k < 7; k++) {
            dueIdle(FULLEST, "fits", FITS, fullest[k], k);
        }
        // The widest and the narrowest; what it holds and the grains that there are do not count.
        SieveLoft x = mill("p60h1,p1h1,p59h1", "60*9999,2*9999", "0");
        due("none stays", x.fits(0), 0);
        due("all fall", x.fits(1), ALL_60);
        row(x, "1");
        due("all but one stay", x.fits(0), bits(2, 60));
        due("one falls", x.fits(1), 1);
        row(x, "2");
        due("one stays", x.fits(0), 1L << 59);
        due("all but one fall", x.fits(1), bits(1, 59));
    }

    private static void shares() {
        int[] any = {1, 999};
        dueBounds(SOME, "shares", SHARES, of(10, 30, 2, 4), of(1, 9999), of(1, 9999999), any, any);
        for (int alike : new int[] {1, 2, 998, 999}) {
            dueIdle(SOME, "alike", SHARES, BAD, 10, 10 * alike, alike, alike);
        }
        dueIdle(SOME, "BAD ahead of NONE", SHARES, BAD, 10, 9999999, 5, 5);
        dueIdle(SOME, "too heavy", SHARES, NONE, 10, 41, 2, 4);
        dueIdle(SOME, "too light", SHARES, NONE, 10, 19, 2, 4);
        dueIdle(SOME, "between", SHARES, NONE, 10, 31, 2, 4);
        dueIdle(SOME, "half and half", SHARES, 5, 10, 30, 2, 4);
        int[][] due = {{1, 1, 1, 2, 1}, {1, 2, 1, 2, 0}, {1, 3, 1, 2, NONE}, {1, 999, 999, 1, 1}, {1, 1, 999, 1, 0},
            {2, 1, 1, 2, NONE}, {9999, 9999 * 999, 999, 1, 9999}, {9999, 9999 * 999, 1, 999, 0},
            {9999, 9999 * 999 + 1, 999, 998, NONE}, {9999, 9999 * 999 - 1, 999, 998, 9998}, {9999, 9999, 1, 999, 9999},
            {9999, 9999, 999, 1, 0}, {9999, 9998, 999, 1, NONE}, {9999, 9999999, 999, 1, NONE}, {9999, 9999999, 1, 999, NONE},
            {9999, 1, 1, 2, NONE}, {9999, 1, 2, 1, NONE}, {1, 9999999, 1, 2, NONE}, {2, 1000, 999, 1, 1}, {2, 999, 999, 1, NONE},
            {7, 30, 6, 3, 3}, {7, 31, 6, 3, NONE}, {7, 32, 6, 3, NONE}, {7, 33, 6, 3, 4}, {7, 20, 6, 3, NONE}, {7, 18, 6, 3, NONE},
            {7, 43, 3, 6, NONE}, {7, 45, 3, 6, NONE}, {7, 42, 3, 6, 0}, {7, 42, 6, 3, 7}, {7, 21, 3, 6, 7}, {7, 21, 6, 3, 0}};
        for (int[] d : due) {
            dueOf(EMPTY, "shares", SHARES, d[4], d[0], d[1], d[2], d[3]);
        }
    }

    /** Changes all that an image keeps; the tape is empty then. */
    private static void changeAll(SieveLoft x) {
        loft(x, "p9w1,k8w2,s7,t6w3,p5");
        heap(x, "9*9$9,8*8$8,4*7");
        row(x, "43210");
        x.shake();
        x.season(2, 3);
        x.mend(0, 33);
        x.set(0, 0, 44);
        x.sieve(1, 2, 3, 0);
        x.grain(1, 2, 3);
    }

    private static void image() {
        for (int state : STATES) {
            // An image changes nothing but the image; a later one stands in its place.
            SieveLoft x = withEmptyTape(state), y = withEmptyTape(state);
            changeAll(x);
            due("image()", x.image(), 1);
            due("restore()", x.restore(), 1);
            changeAll(y);
            due("image()", y.image(), 1);
            due("image()", y.image(), 1);
            dueSame("an image of all", state, x, y);
            // It is as all was then, whatever comes behind it.
            SieveLoft z = withEmptyTape(state), v = withEmptyTape(state);
            due("image()", z.image(), 1);
            due("image()", v.image(), 1);
            changeAll(z);
            due("restore()", z.restore(), 1);
            dueSame("an image that was restored", state, z, v);
        }
        due("the tape stays", typedAroundImage(), 1);
    }

    private static int typedAroundImage() {
        SieveLoft x = new SieveLoft();
        x.type('p', 1);
        x.image();
        due("behind what was there", x.type('5', 1), 2);
        return x.loft();
    }

    private static void restore() {
        SieveLoft x = new SieveLoft(), y = new SieveLoft();
        changeAll(x);
        changeAll(y);
        due("there is none", x.restore(), NONE);
        due("there is none", x.restore(), NONE);
        dueSame("restore without an image", EMPTY, x, y);
        // Back to nothing, and again; sheets and the tape stay.
        SieveLoft z = made(FULLEST);
        for (int i = 0; i < 2; i++) {
            due("restore()", z.restore(), 1);
            for (int what = 0; what < 5; what++) {
                due("count(" + what + ")", z.count(what), 0);
            }
            due("type", z.type(' ', 1), FULL);
            z.grain(1, 1, 1);
        }
        due("loft()", z.loft(), 8);
        dueSieve(z, 7, 2, 8, 99999, 0);
        due("drop(0)", z.drop(0), 24);
        SieveLoft v = new SieveLoft();
        v.image();
        fill(v, 2, 0, 5, 6);
        typed(v, "p5");
        due("restore()", v.restore(), 1);
        due("type", v.type(' ', 1), 3);
        due("loft()", v.loft(), 1);
        putSevenHeaps(v);
        dueItems(v, 2, 0, 5, 6);
        // A later image stands in the place of the first one.
        SieveLoft w = new SieveLoft();
        w.grain(1, 1, 1);
        w.image();
        w.grain(2, 2, 2);
        w.image();
        w.grain(3, 3, 3);
        due("restore()", w.restore(), 1);
        due("count(1)", w.count(1), 2);
        w.set(1, 0, 9);
        due("restore()", w.restore(), 1);
        due("size", w.set(1, 0, 9), 2);
    }

    // ---- 24 to 30: sheets

    private static void meshes() {
        dueBounds(SOME, "meshes", MESHES, of(0, 0, 0, 0), of(0, 3), ANY_SHEET, ANY_LANE);
        dueBounds(FULLEST, "meshes", MESHES, of(0, 0, 0, 0), of(0, 7), ANY_SHEET, ANY_LANE);
        dueIdle(EMPTY, "meshes", MESHES, BAD, 0, 0, 0, 0);
        dueIdle(SOME, "not in the row", MESHES, NOT, 2, 0, 0, 0);
        dueIdle(SOME, "torn", MESHES, NOT, 3, 0, 0, 0);
        dueIdle(SOME, "NOT ahead of NULL", MESHES, NOT, 2, 3, 0, -1);
        dueIdle(SOME, "NOT ahead of NULL", MESHES, NOT, 3, 3, 0, -1);
        dueIdle(SOME, "NOT ahead of CAST", MESHES, NOT, 3, 0, 1, -1);
        dueIdle(SOME, "NOT ahead of INDEX", MESHES, NOT, 3, 0, 0, -1);
        dueIdle(SOME, "BAD ahead of NOT", MESHES, BAD, 3, 4, 0, 0);
        dueIdle(SOME, "BAD ahead of NOT", MESHES, BAD, 2, 0, 3, 0);
        dueIdle(SOME, "NULL ahead of INDEX", MESHES, NULL, 0, 3, 0, -1);
        dueIdle(SOME, "NULL", MESHES, NULL, 1, 3, 2, 0);
        dueIdle(SOME, "CAST ahead of INDEX", MESHES, CAST, 0, 0, 1, -1);
        dueIdle(SOME, "CAST", MESHES, CAST, 0, 1, 2, 0);
        // Four grains and seven items; six in the second sheet, none in the third.
        for (int from : new int[] {-1, 4, 7, 8, LEAST, MOST}) {
            dueIdle(SOME, "meshes", MESHES, INDEX, 0, 0, 0, from);
        }
        dueIdle(SOME, "meshes", MESHES, INDEX, 0, 1, 1, 3);
        dueIdle(SOME, "of no items", MESHES, INDEX, 0, 2, 2, 0);
        dueIdle(SOME, "from 0 on", MESHES, 0, 0, 0, 0, 0);
        dueIdle(SOME, "from 3 on", MESHES, 0, 0, 0, 0, 3);
        dueIdle(FULLEST, "from 18 on", MESHES, 0, 0, 3, 1, 18);
        dueIdle(FULLEST, "from 19 on", MESHES, INDEX, 0, 3, 1, 19);
        dueIdle(FULLEST, "not in the row", MESHES, NOT, 1, 3, 1, 0);
        dueIdle(FULLEST, "torn", MESHES, NOT, 6, 3, 1, 0);
        long[] due = {bits(48, 59), NOT, bits(38, 47), NOT, bits(28, 37), bits(18, 27), NOT, bits(8, 17)};
        for (int lane = 0; lane < 3; lane++) {
            SieveLoft x = made(FULLEST);
            due("film", x.film(lane, lane, 18), 6);
            for (int s = 0; s < 8; s++) {
                due("meshes(" + s + ", ..)", x.meshes(s, lane, lane, 18), due[s]);
            }
        }
        // The least and the greatest mesh alone, all of them, none.
        dueMeshes("1", 1, ALL_60);
        dueMeshes("1", 0, 0);
        dueMeshes("2", 0, 1);
        dueMeshes("2", 1, bits(2, 60));
        dueMeshes("60", 1, 1L << 59);
        dueMeshes("60", 0, bits(1, 59));
        dueMeshes("60", 2, 0);
        dueMeshes("60", -1, 0);
        dueMeshes("60", NONE, 0);
        dueMeshes("60", 99, 0);
        dueMeshes("60*0", 99, ALL_60);
        dueMeshes("60*0", 0, ALL_60);
        // An item for a grain of amount 0 is there, though it counts for nothing.
        SieveLoft y = mill("k5", "9,30*0", "0");
        fill(y, 0, 2, 1, 77);
        due("both", y.meshes(0, 0, 2, 0), bits(9, 60));
        due("one too few", y.meshes(0, 0, 2, 1), INDEX);
        // Without grains: from one that may stand at the end.
        SieveLoft z = mill("s5", "", "0");
        z.sheet(0, 0, 24);
        z.sheet(1, 0, 0);
        due("from 0", z.meshes(0, 0, 0, 0), ALL_60);
        due("from 24", z.meshes(0, 0, 0, 24), ALL_60);
        due("from 25", z.meshes(0, 0, 0, 25), INDEX);
        due("from -1", z.meshes(0, 0, 0, -1), INDEX);
        due("of none, from 0", z.meshes(0, 1, 0, 0), ALL_60);
        due("of none, from 1", z.meshes(0, 1, 0, 1), INDEX);
        due("of none, from -1", z.meshes(0, 1, 0, -1), INDEX);
        row(z, "");
        due("an empty row", z.meshes(0, 0, 0, 0), NOT);
    }

    /** The meshes by which a lone grain is in a heap of a lone sieve. */
    private static void dueMeshes(String grain, int heap, long want) {
        for (int kind = 0; kind < 3; kind++) {
            SieveLoft x = mill("pskt".charAt(kind) + "30", grain, "0");
            fill(x, 0, 2, heap);
            due("meshes for " + grain + " in " + heap, x.meshes(0, 0, 2, 0), want);
        }
    }

    private static void torn() {
        dueBounds(SOME, "torn", TORN, of(0, 0, 0), ANY_SHEET, ANY_LANE);
        dueBounds(FULLEST, "torn", TORN, of(0, 0, 0), ANY_SHEET, ANY_LANE);
        dueBounds(EMPTY, "torn", TORN, of(0, 0, 0), ANY_SHEET, ANY_LANE);
        dueIdle(SOME, "NULL ahead of INDEX", TORN, NULL, 3, 0, -1);
        dueIdle(SOME, "CAST ahead of INDEX", TORN, CAST, 0, 1, -1);
        dueIdle(SOME, "CAST", TORN, CAST, 0, 2, 0);
        for (int from : new int[] {-1, 4, 7, 8, LEAST, MOST}) {
            dueIdle(SOME, "torn", TORN, INDEX, 0, 0, from);
        }
        dueIdle(SOME, "torn", TORN, INDEX, 1, 1, 3);
        dueIdle(SOME, "of no items", TORN, INDEX, 2, 2, 0);
        dueIdle(SOME, "from 0 on", TORN, 0, 0, 0, 0);
        dueIdle(SOME, "from 3 on", TORN, 0, 0, 0, 3);
        dueIdle(FULLEST, "from 18 on", TORN, 0, 3, 1, 18);
        dueIdle(FULLEST, "from 19 on", TORN, INDEX, 3, 1, 19);
        for (int lane = 0; lane < 3; lane++) {
            SieveLoft x = made(FULLEST);
            due("film", x.film(lane, lane, 18), 6);
            due("as they are, and the torn one", x.torn(lane, lane, 18), 128 + 16);
            // The third, if it were torn, lets its grain fall to the fourth one.
            due("item", x.item(lane, lane, 20, 3), 1);
            due("the third", x.torn(lane, lane, 18), 4);
            due("item", x.item(lane, lane, 20, 4), 1);
            due("none", x.torn(lane, lane, 18), 0);
        }
        // Each of six places by turns.
        for (int place = 0; place < 6; place++) {
            SieveLoft x = mill("p55,p45,p35,p25,p15,p5", String.valueOf(60 - 10 * place), "012345");
            fill(x, 0, 0, place + 1);
            due("place " + place, x.torn(0, 0, 0), 1 << place);
            x.item(0, 0, 0, place);
            due("all but place " + place + ", and as they are", x.torn(0, 0, 0), 128 + 63 - (1 << place));
        }
        // No heap is told; an item for amount 0 counts for nothing, but must be there.
        SieveLoft y = mill("p5", "9,30*0", "0");
        for (int item : new int[] {-1, NONE, 2, 7, 127, -128}) {
            fill(y, 0, 0, item, item);
            due("no such heap", y.torn(0, 0, 0), 0);
            y.item(0, 0, 0, 0);
            due("as they are", y.torn(0, 0, 0), 128);
        }
        due("one too few", y.torn(0, 0, 1), INDEX);
        y.set(0, 1, 0);
        due("all of amount 0", y.torn(0, 0, 0), 128 + 1);
        // Without grains, and without a row.
        SieveLoft z = mill("s5", "", "0");
        z.sheet(0, 0, 24);
        z.sheet(1, 0, 0);
        due("from 0", z.torn(0, 0, 0), 128 + 1);
        due("from 24", z.torn(0, 0, 24), 128 + 1);
        due("from 25", z.torn(0, 0, 25), INDEX);
        due("from -1", z.torn(0, 0, -1), INDEX);
        due("of none, from 0", z.torn(1, 0, 0), 128 + 1);
        due("of none, from 1", z.torn(1, 0, 1), INDEX);
        row(z, "");
        due("an empty row", z.torn(0, 0, 0), 128);
    }

    private static void sheet() {
        for (int state : STATES) {
            dueBounds(state, "sheet", SHEET, of(0, 1, 5), ANY_SHEET, ANY_LANE);
            for (int n : new int[] {25, 26, 127, 32768, MOST}) {
                dueIdle(state, "above 24", SHEET, BAD, 0, 1, n);
            }
            for (int n : new int[] {-1, -2, LEAST}) {
                dueIdle(state, "below 0", SHEET, SIZE, 0, 1, n);
                dueIdle(state, "BAD ahead of SIZE", SHEET, BAD, 4, 1, n);
                dueIdle(state, "BAD ahead of SIZE", SHEET, BAD, 0, 3, n);
            }
            for (int sheet = 0; sheet < 4; sheet++) {
                for (int lane = 0; lane < 3; lane++) {
                    SieveLoft x = withEmptyTape(state);
                    putSevenHeaps(x);
                    dueNewSheet(x, sheet, lane, 24);
                    dueNewSheet(x, sheet, lane, 1);
                    dueNewSheet(x, sheet, lane, 0);
                }
            }
        }
    }

    private static void dueNewSheet(SieveLoft x, int sheet, int lane, int n) {
        due("sheet(" + sheet + ", " + lane + ", " + n + ")", x.sheet(sheet, lane, n), n);
        due("item " + n, x.item(sheet, lane, n, 1), INDEX);
        due("of another lane", x.item(sheet, (lane + 1) % 3, 0, 1), CAST);
        dueItems(x, sheet, lane, new int[n]);
        // For the next one, to be all new.
        for (int i = 0; i < n; i++) {
            due("item " + i, x.item(sheet, lane, i, 5), 1);
        }
    }

    private static void drop() {
        int[][] had = {{NULL, NULL, NULL, NULL}, {7, 6, 0, NULL}, {24, 24, 24, 24}};
        for (int state : STATES) {
            dueBounds(state, "drop", DROP, of(0), ANY_SHEET);
            for (int s = 0; s < 4; s++) {
                SieveLoft x = made(state);
                due("drop(" + s + ")", x.drop(s), had[state][s]);
                due("drop(" + s + ")", x.drop(s), NULL);
                for (int lane = 0; lane < 3; lane++) {
                    due("item of nothing", x.item(s, lane, 0, 0), NULL);
                }
                int next = (s + 1) % 4;
                due("the others stay", x.drop(next), had[state][next]);
            }
        }
        dueIdle(SOME, "drop", DROP, NULL, 3);
        SieveLoft x = made(FULLEST);
        x.drop(0);
        x.sheet(0, 2, 3);
        due("a new one", x.drop(0), 3);
    }

    private static void item() {
        dueBounds(SOME, "item", ITEM, of(0, 0, 0, 5), ANY_SHEET, ANY_LANE);
        dueBounds(FULLEST, "item", ITEM, of(0, 0, 0, 5), ANY_SHEET, ANY_LANE);
        dueBounds(EMPTY, "item", ITEM, of(0, 0, 0, 5), ANY_SHEET, ANY_LANE);
        dueIdle(SOME, "NULL ahead of INDEX", ITEM, NULL, 3, 0, -1, 5);
        dueIdle(SOME, "CAST ahead of INDEX", ITEM, CAST, 0, 1, -1, 5);
        dueIdle(SOME, "CAST ahead of INDEX", ITEM, CAST, 2, 1, 0, 5);
        for (int i : new int[] {-1, 7, 8, 24, LEAST, MOST}) {
            dueIdle(SOME, "item", ITEM, INDEX, 0, 0, i, 5);
        }
        dueIdle(SOME, "of no items", ITEM, INDEX, 2, 2, 0, 5);
        for (int i : new int[] {-1, 24, LEAST, MOST}) {
            dueIdle(FULLEST, "item", ITEM, INDEX, 0, 0, i, 5);
        }
        // The lowest bits: 8, 16 or 32 of them, of numbers below 0, too.
        int[][] cut = {{3, 3, 3, 3}, {256 + 3, 3, -1, -1}, {-256 + 3, 3, -1, -1}, {0x7F00 + 3, 3, -1, -1}, {0x10000 + 3, 3, 3, -1},
            {-0x10000 + 3, 3, 3, -1}, {0x8000 + 3, 3, -1, -1}, {LEAST + 3, 3, 3, -1}, {LEAST, 0, 0, -1}, {MOST, -1, -1, -1},
            {-1, -1, -1, -1}, {255, -1, -1, -1}, {128 + 3, -1, -1, -1}, {65535, -1, -1, -1}, {0, 0, 0, 0}, {6, 6, 6, 6}};
        for (int lane = 0; lane < 3; lane++) {
            SieveLoft x = new SieveLoft();
            x.sheet(2, lane, 24);
            putSevenHeaps(x);
            for (int[] c : cut) {
                for (int i : new int[] {0, 23}) {
                    due("item", x.item(2, lane, i, c[0]), 1);
                    dueHeapTold(x, 2, lane, i, c[lane + 1]);
                }
            }
        }
        SieveLoft y = new SieveLoft();
        fill(y, 0, 1, 0, 1, 2, 3, 4, 5, 6);
        due("item", y.item(0, 1, 3, 0), 1);
        putSevenHeaps(y);
        dueItems(y, 0, 1, 0, 1, 2, 0, 4, 5, 6);
    }

    /** An item is a heap (0 .. 6), or none of them (-1). */
    private static void dueHeapTold(SieveLoft x, int sheet, int lane, int i, int heap) {
        for (int h = Math.max(heap, 0); h <= (heap < 0 ? 6 : heap); h++) {
            putGrainTo(x, h);
            due("item " + i + " is " + h, x.torn(sheet, lane, i) & 128, heap == h ? 128 : 0);
        }
    }

    private static void film() {
        dueBounds(SOME, "film", FILM, of(0, 0, 0), ANY_SHEET, ANY_LANE);
        dueBounds(FULLEST, "film", FILM, of(0, 0, 0), ANY_SHEET, ANY_LANE);
        dueBounds(EMPTY, "film", FILM, of(0, 0, 0), ANY_SHEET, ANY_LANE);
        dueIdle(SOME, "NULL ahead of INDEX", FILM, NULL, 3, 0, -1);
        dueIdle(SOME, "CAST ahead of INDEX", FILM, CAST, 0, 1, -1);
        for (int from : new int[] {-1, 4, 7, 8, LEAST, MOST}) {
            dueIdle(SOME, "film", FILM, INDEX, 0, 0, from);
        }
        dueIdle(SOME, "of no items", FILM, INDEX, 2, 2, 0);
        dueIdle(FULLEST, "film", FILM, INDEX, 3, 1, 19);
        // As far as it goes; the items ahead of it and behind it stay.
        for (int lane = 0; lane < 3; lane++) {
            for (int from = 0; from < 3; from++) {
                SieveLoft x = made(FULLEST);
                fill(x, 3, lane, 4, 4, 4, 4, 4, 4, 4, 4);
                due("film", x.film(3, lane, from), 6);
                int[] want = {4, 4, 4, 4, 4, 4, 4, 4};
                int[] heaps = {0, 1, 2, 3, 5, 6};
                System.arraycopy(heaps, 0, want, from, 6);
                x.loft();
                putSevenHeaps(x);
                dueItems(x, 3, lane, want);
            }
            // Of amount 0: no heap comes to its item, but NONE does.
            SieveLoft y = mill("p5", "9*0,3*0", "0");
            fill(y, 0, lane, 1, 1, 1);
            due("film", y.film(0, lane, 0), 2);
            putSevenHeaps(y);
            dueHeapTold(y, 0, lane, 0, -1);
            dueHeapTold(y, 0, lane, 1, -1);
            dueHeapTold(y, 0, lane, 2, 1);
        }
        // Of none, which changes nothing.
        SieveLoft z = new SieveLoft();
        fill(z, 0, 0, 1, 2, 3);
        z.sheet(1, 0, 0);
        int[][] none = {{0, 0, 0}, {0, 3, 0}, {0, 4, INDEX}, {0, -1, INDEX}, {0, LEAST, INDEX}, {0, MOST, INDEX}, {1, 0, 0}, {1, 1, INDEX},
            {1, -1, INDEX}};
        for (int[] n : none) {
            due("film of none", z.film(n[0], 0, n[1]), n[2]);
        }
        putSevenHeaps(z);
        dueItems(z, 0, 0, 1, 2, 3);
    }

    private static void copy() {
        for (int state : STATES) {
            dueBounds(state, "copy", COPY, of(0, 0, 0, 0, 0), ANY_SHEET, FREE, ANY_SHEET);
        }
        // Sheet 0 has 7 bytes, 1 has 6 shorts, 2 has no ints, 3 is nothing.
        int[][] refused = {{BAD, 4, 0, 3, 0, -1}, {BAD, 3, 0, 4, 0, -1}, {NULL, 3, -1, 0, -1, -1}, {NULL, 0, -1, 3, -1, -1},
            {NULL, 3, 0, 3, 0, 0}, {CAST, 0, -1, 1, -1, -1}, {CAST, 1, 0, 0, 0, 0}, {CAST, 0, 0, 2, 0, 0}, {CAST, 2, 0, 1, 0, 0},
            {INDEX, 0, 0, 0, 0, -1}, {INDEX, 0, 0, 0, 0, LEAST}, {INDEX, 0, 0, 0, 0, 8}, {INDEX, 0, 0, 0, 0, MOST},
            {INDEX, 0, 1, 0, 1, MOST}, {INDEX, 0, 7, 0, 7, MOST}, {INDEX, 0, MOST, 0, 0, 1}, {INDEX, 0, 0, 0, MOST, 1},
            {INDEX, 0, MOST, 0, MOST, MOST}, {INDEX, 0, LEAST, 0, 0, 0}, {INDEX, 0, 0, 0, LEAST, 0}, {INDEX, 0, LEAST, 0, 0, LEAST},
            {INDEX, 0, 0, 0, -1, -1}, {INDEX, 2, 0, 2, 0, 1}, {INDEX, 2, 1, 2, 0, 0}, {INDEX, 2, 0, 2, -1, 0}};
        for (int[] r : refused) {
            dueIdle(SOME, "copy", COPY, r[0], r[1], r[2], r[3], r[4], r[5]);
        }
        dueIdle(SOME, "none", COPY, 0, 0, 7, 0, 7, 0);
        dueIdle(SOME, "none of none", COPY, 0, 2, 0, 2, 0, 0);
        dueIdle(SOME, "all to where they are", COPY, 7, 0, 0, 0, 0, 7);
        dueIdle(FULLEST, "all to where they are", COPY, 24, 0, 0, 0, 0, 24);
        dueIdle(FULLEST, "one more", COPY, INDEX, 1, 0, 3, 0, 25);
        for (int lane = 0; lane < 3; lane++) {
            dueCopies(lane, 5, 5, true);
            dueCopies(lane, 5, 3, false);
            dueCopies(lane, 2, 4, false);
        }
        SieveLoft x = new SieveLoft();
        int[] all = new int[24];
        for (int i = 0; i < 24; i++) {
            all[i] = i % 7;
        }
        fill(x, 0, 2, all);
        x.sheet(1, 2, 24);
        due("all", x.copy(0, 0, 1, 0, 24), 24);
        due("all but one, upwards", x.copy(0, 0, 0, 1, 23), 23);
        putSevenHeaps(x);
        dueItems(x, 1, 2, all);
        System.arraycopy(all.clone(), 0, all, 1, 23);
        dueItems(x, 0, 2, all);
    }

    /** Each copy of n items from i on to j on, and those just outside, within one sheet or between two. */
    private static void dueCopies(int lane, int fromLength, int toLength, boolean same) {
        int[] source = new int[fromLength], target = new int[toLength];
        for (int i = 0; i < fromLength; i++) {
            source[i] = i;
        }
        for (int i = 0; i < toLength; i++) {
            target[i] = same ? i : 6 - i;
        }
        for (int i = -1; i <= fromLength + 1; i++) {
            for (int j = -1; j <= toLength + 1; j++) {
                for (int n = -1; n <= fromLength + 1; n++) {
                    dueCopy(of(lane, i, j, n), source, target, same);
                }
            }
        }
    }

    private static void dueCopy(int[] a, int[] source, int[] target, boolean same) {
        int lane = a[0], i = a[1], j = a[2], n = a[3], to = same ? 2 : 3;
        boolean fits = i >= 0 && j >= 0 && n >= 0 && i + n <= source.length && j + n <= target.length;
        SieveLoft x = new SieveLoft();
        fill(x, 2, lane, source);
        if (!same) {
            fill(x, 3, lane, target);
        }
        due("copy(2, " + i + ", " + to + ", " + j + ", " + n + ")", x.copy(2, i, to, j, n), fits ? n : INDEX);
        int[] want = target.clone();
        if (fits) {
            System.arraycopy(source, i, want, j, n);
        }
        putSevenHeaps(x);
        dueItems(x, to, lane, want);
        if (!same) {
            dueItems(x, 2, lane, source);
        }
    }
}
