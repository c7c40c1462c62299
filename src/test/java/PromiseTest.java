/** What each promise of the document says, by runs whose answers were worked out by hand. */
public final class PromiseTest extends Checks {
    public static void main(String[] args) {
        runPromises(PromiseTest::newObject, PromiseTest::grain, PromiseTest::set, PromiseTest::sieve, PromiseTest::told,
            PromiseTest::mend, PromiseTest::type, PromiseTest::loft, PromiseTest::heap, PromiseTest::row,
            PromiseTest::count, PromiseTest::found, PromiseTest::where, PromiseTest::chokes, PromiseTest::shake,
            PromiseTest::lasts, PromiseTest::best, PromiseTest::parted, PromiseTest::season, PromiseTest::fits,
            PromiseTest::shares, PromiseTest::image, PromiseTest::restore, PromiseTest::meshes, PromiseTest::torn,
            PromiseTest::sheet, PromiseTest::drop, PromiseTest::item, PromiseTest::film, PromiseTest::copy);
    }

    // ---- promises

    private static void newObject() {
        int[] constant = {BAD, NOT, FULL, NONE, NULL, CAST, INDEX, SIZE}, told = {-1, -2, -3, -4, -11, -12, -13, -14};
        for (int i = 0; i < told.length; i++) {
            due("constant " + i, constant[i], told[i]);
        }
        SieveLoft x = new SieveLoft();
        for (int what = 0; what < 5; what++) {
            due("count(" + what + ")", x.count(what), 0);
        }
        due("told(0, 0)", x.told(0, 0), BAD);
        due("where(0)", x.where(0), BAD);
        due("found(0, 0)", x.found(0, 0), 0);
        due("fits(0)", x.fits(0), ALL_60);
        due("restore()", x.restore(), NONE);
        due("row()", x.row(), 0);
        due("loft()", x.loft(), -20);
        due("heap()", x.heap(), -20);
        for (int i = 0; i < 4; i++) {
            due("drop(" + i + ")", x.drop(i), NULL);
        }
    }

    private static void grain() {
        SieveLoft x = new SieveLoft();
        int[][] bad = {{0, 1, 1}, {61, 1, 1}, {LEAST, 1, 1}, {MOST, 1, 1}, {1, -1, 1}, {1, 10000, 1}, {1, LEAST, 1},
            {1, MOST, 1}, {1, 1, -1}, {1, 1, 100}, {1, 1, LEAST}, {1, 1, MOST}};
        for (int[] b : bad) {
            due("bad grain", x.grain(b[0], b[1], b[2]), BAD);
        }
        due("count(1)", x.count(1), 0);
        due("grain(1, 0, 0)", x.grain(1, 0, 0), 0);
        due("grain(60, 9999, 99)", x.grain(60, 9999, 99), 1);
        due("found(0, 0)", x.found(0, 0), 2);
        due("found(0, 1)", x.found(0, 1), 9999);
        due("found(0, 2)", x.found(0, 2), 9999 * 99);
        for (int g = 2; g < 6; g++) {
            due("grain(30, 1, 98)", x.grain(30, 1, 98), g);
        }
        due("a seventh", x.grain(1, 1, 1), FULL);
        due("a bad seventh", x.grain(0, 1, 1), BAD);
        due("count(1)", x.count(1), 6);
        due("count(4)", x.count(4), 10003);
        due("found(0, 2)", x.found(0, 2), 10003 * 98);
    }

    private static void set() {
        SieveLoft x = mill("p20", "30*5$7,10", "0");
        due("set(0, 0, 60)", x.set(0, 0, 60), 30);
        due("set(0, 0, 1)", x.set(0, 0, 1), 60);
        due("where(0)", x.where(0), 1);
        due("set(0, 1, 9999)", x.set(0, 1, 9999), 5);
        due("set(0, 1, 0)", x.set(0, 1, 0), 9999);
        due("where(0)", x.where(0), NONE);
        due("set(0, 2, 99)", x.set(0, 2, 99), 7);
        due("set(0, 2, 0)", x.set(0, 2, 0), 99);
        int[][] bad = {{-1, 0, 5}, {2, 0, 5}, {MOST, 0, 5}, {0, -1, 5}, {0, 3, 5}, {0, MOST, 5}, {0, 0, 0}, {0, 0, 61},
            {0, 1, -1}, {0, 1, 10000}, {0, 2, -1}, {0, 2, 100}};
        for (int[] b : bad) {
            due("bad set", x.set(b[0], b[1], b[2]), BAD);
        }
        due("set(1, 0, 11)", x.set(1, 0, 11), 10);
        due("set(1, 1, 2)", x.set(1, 1, 2), 1);
        due("set(1, 2, 3)", x.set(1, 2, 3), 0);
        due("set(0, 0, 1)", x.set(0, 0, 1), 1);
        due("set(0, 1, 4)", x.set(0, 1, 4), 0);
        due("set(0, 2, 5)", x.set(0, 2, 5), 0);
        due("found(1, 2)", x.found(1, 2), 18);
    }

    private static void sieve() {
        SieveLoft x = new SieveLoft();
        int[][] bad = {{-1, 1, 1, 0}, {4, 1, 1, 0}, {0, 0, 1, 0}, {0, 61, 1, 0}, {0, 1, 0, 0}, {0, 1, 100000, 0},
            {0, 1, 1, -1}, {0, 1, 1, 4}, {LEAST, 1, 1, 0}, {0, MOST, 1, 0}, {0, 1, LEAST, 0}, {0, 1, 1, MOST}};
        for (int[] b : bad) {
            due("bad sieve", x.sieve(b[0], b[1], b[2], b[3]), BAD);
        }
        due("count(0)", x.count(0), 0);
        due("sieve(0, 1, 1, 0)", x.sieve(0, 1, 1, 0), 0);
        due("sieve(3, 60, 99999, 3)", x.sieve(3, 60, 99999, 3), 1);
        dueSieve(x, 0, 0, 1, 1, 0);
        dueSieve(x, 1, 3, 60, 99999, 3);
        for (int s = 2; s < 8; s++) {
            due("sieve", x.sieve(s % 4, s, s, s % 4), s);
            dueSieve(x, s, s % 4, s, s, s % 4);
        }
        due("a ninth", x.sieve(0, 1, 1, 0), FULL);
        due("a bad ninth", x.sieve(0, 1, 1, 4), BAD);
        due("count(0)", x.count(0), 8);
    }

    private static void told() {
        SieveLoft x = mill("k20h300w2", "10,30", "0");
        dueSieve(x, 0, 2, 20, 300, 2);
        x.shake();
        dueSieve(x, 0, 2, 24, 300, 2);
        due("told(1, 0)", x.told(1, 0), BAD);
        due("told(-1, 0)", x.told(-1, 0), BAD);
        due("told(0, -1)", x.told(0, -1), BAD);
        due("told(0, 4)", x.told(0, 4), BAD);
        due("told(MOST, MOST)", x.told(MOST, MOST), BAD);
    }

    private static void mend() {
        SieveLoft x = mill("p20w1,s30,k40,t50", "25", "0");
        due("mend(0, 60)", x.mend(0, 60), 20);
        due("mend(0, 1)", x.mend(0, 1), 60);
        due("mend(1, 31)", x.mend(1, 31), 30);
        due("mend(2, 41)", x.mend(2, 41), 40);
        due("mend(3, 51)", x.mend(3, 51), NOT);
        due("told(3, 1)", x.told(3, 1), 50);
        due("mend(3, 61)", x.mend(3, 61), BAD);
        due("mend(0, 0)", x.mend(0, 0), BAD);
        due("mend(0, 61)", x.mend(0, 61), BAD);
        due("mend(4, 5)", x.mend(4, 5), BAD);
        due("mend(-1, 5)", x.mend(-1, 5), BAD);
        due("told(0, 1)", x.told(0, 1), 1);
        due("where(0)", x.where(0), 0);
        due("mend(0, 25)", x.mend(0, 25), 1);
        due("where(0)", x.where(0), 1);
    }

    private static void type() {
        SieveLoft x = new SieveLoft();
        due("n 0", x.type(0x7035, 0), BAD);
        due("n -1", x.type(0x7035, -1), BAD);
        due("n 9", x.type(0x7035, 9), BAD);
        due("n least", x.type(0x7035, LEAST), BAD);
        due("the byte 31", x.type(0x701F, 2), BAD);
        due("the byte 127", x.type(0x7F35, 2), BAD);
        due("the byte 255", x.type(-1L, 8), BAD);
        due("the highest byte 0", x.type(0x35, 2), BAD);
        due("the lowest bytes alone", x.type(0xFF00FF00FF007035L, 2), 2);
        due("loft()", x.loft(), 1);
        dueSieve(x, 0, 0, 5, 99999, 0);
        due("32 and 126", x.type(0x207E, 2), 2);
        due("loft()", x.loft(), -21);
        for (int i = 1; i <= 14; i++) {
            due("type", x.type(0x2020202020202020L, 8), 8 * i);
        }
        due("type to 117", x.type(0x2020202020L, 5), 117);
        due("type 4", x.type(0x20202020L, 4), FULL);
        due("type 4 with a bad byte", x.type(0x20200020L, 4), BAD);
        due("type 3", x.type(0x207035L, 3), 120);
        due("type 1", x.type(0x20, 1), FULL);
        due("loft() of 120", x.loft(), 1);
        due("type on an empty tape", x.type(0x20, 1), 1);
    }

    private static void loft() {
        SieveLoft x = mill("p7", "5", "0");
        String[][] faulty = {{"", "0"}, {"x", "0"}, {"P5", "0"}, {"5", "0"}, {"5x", "0"}, {",", "0"}, {"p", "1"}, {"pp", "1"}, {"p0", "1"},
            {"p61", "1"}, {"p061x", "1"}, {"p99999999999999999999", "1"}, {"p5h", "3"}, {"p5h0", "3"},
            {"p5h100000", "3"}, {"p5w", "3"}, {"p5w4", "3"}, {"p5w03", "4"}, {"p5w1h5", "4"}, {"p5h1h1", "4"},
            {"p5w1w1", "4"}, {"p5,", "3"}, {"p5,,", "3"}, {"p5, ", "4"}, {"p5 5", "3"}, {" p 6 1", "5"}, {"  x", "2"}, {"   ", "3"},
            {"p5,s5,k5,t5,p5,p5,p5,p5,", "23"}, {"p5,s5,k5,t5,p5,p5,p5,p5,p5", "23"}, {"p5;s5", "2"}, {"p5h9 w 5", "7"}};
        for (String[] f : faulty) {
            due("loft \"" + f[0] + "\"", loft(x, f[0]), -20 - Integer.parseInt(f[1]));
        }
        due("the tape is empty", x.type(0x20, 1), 1);
        dueSieve(x, 0, 0, 7, 99999, 0);
        due("count(0)", x.count(0), 1);
        due("count(2)", x.count(2), 1);
        due("loft", loft(x, " p 060 h 0099999 w 3 , s1h1,k002w0,t9 "), 4);
        due("the row is empty", x.count(2), 0);
        dueSieve(x, 0, 0, 60, 99999, 3);
        dueSieve(x, 1, 1, 1, 1, 0);
        dueSieve(x, 2, 2, 2, 99999, 0);
        dueSieve(x, 3, 3, 9, 99999, 0);
        due("the tape is empty", x.type(0x20, 1), 1);
        due("eight", loft(x, "p1,p2,p3,p4,p5,p6,p7,p8"), 8);
        dueSieve(x, 7, 0, 8, 99999, 0);
        due("one", loft(x, "s3"), 1);
        due("in place of all", x.told(1, 0), BAD);
        due("the grains stay", x.count(1), 1);
    }

    private static void heap() {
        SieveLoft x = mill("p7", "5*4$3,9", "0");
        String[][] faulty = {{"", "0"}, {"x", "0"}, {"*5", "0"}, {"0", "0"}, {"61", "0"}, {"00061*2", "0"}, {"0 x", "0"}, {" 61", "1"}, {"5*", "2"},
            {"5*10000", "2"}, {"5*00010000", "2"}, {"5$", "2"}, {"5$100", "2"}, {"5$1*1", "3"}, {"5*1*1", "3"}, {"5$1$1", "3"},
            {"5,", "2"}, {"5, ", "3"}, {"5 5", "2"}, {"5*1 1", "4"}, {"5*-1", "2"}, {"1,2,3,4,5,6,", "11"}, {"1,2,3,4,5,6,7", "11"},
            {"5*4294967297", "2"}, {"1,2,0,x", "4"}, {"5.", "1"}, {"5*$3", "2"}};
        for (String[] f : faulty) {
            due("heap \"" + f[0] + "\"", heap(x, f[0]), -20 - Integer.parseInt(f[1]));
        }
        due("the tape is empty", x.type(0x20, 1), 1);
        due("count(1)", x.count(1), 2);
        due("count(4)", x.count(4), 5);
        due("heap", heap(x, " 060 * 9999 $ 99 , 7*0,1$0,003"), 4);
        due("size", x.set(0, 0, 1), 60);
        due("amount", x.set(0, 1, 1), 9999);
        due("price", x.set(0, 2, 1), 99);
        due("amount 0", x.set(1, 1, 1), 0);
        due("amount 1", x.set(2, 1, 1), 1);
        due("price 0", x.set(3, 2, 1), 0);
        due("size 3", x.set(3, 0, 1), 3);
        due("the row stays", x.count(2), 1);
        due("six", heap(x, "1,2,3,4,5,6"), 6);
        due("one", heap(x, "60"), 1);
        due("in place of all", x.set(1, 0, 1), BAD);
    }

    private static void row() {
        SieveLoft x = mill("p7,p8,p9,p10,p11,p12,p13", "5", "0");
        String[][] faulty = {{"7", "0"}, {"9", "0"}, {"x", "0"}, {"00", "1"}, {"0 1 0", "4"}, {"0,1", "1"}, {"0123456", "6"},
            {"012345x", "6"}, {"012340", "5"}, {" -", "1"}, {"0/", "1"}, {"0:", "1"}};
        for (String[] f : faulty) {
            due("row \"" + f[0] + "\"", row(x, f[0]), -20 - Integer.parseInt(f[1]));
        }
        due("the tape is empty", x.type(0x20, 1), 1);
        due("it stays", x.count(2), 1);
        due("row", row(x, " 65 4321 "), 6);
        due("count(2)", x.count(2), 6);
        due("the uppermost first", x.set(0, 0, 13), 5);
        due("where(0)", x.where(0), 1);
        due("blanks", row(x, "  "), 0);
        due("count(2)", x.count(2), 0);
        due("row", row(x, "10"), 2);
        due("none typed", x.row(), 0);
        SieveLoft y = new SieveLoft();
        due("no sieves", row(y, "0"), -20);
    }

    private static void count() {
        SieveLoft x = mill("p7,p8,p9", "5*9000,6*9000", "01");
        due("count(0)", x.count(0), 3);
        due("count(1)", x.count(1), 2);
        due("count(2)", x.count(2), 2);
        due("count(3)", x.count(3), 0);
        due("count(4)", x.count(4), 18000);
        x.shake();
        x.lasts();
        x.best(4, -2);
        due("shakings", x.count(3), 1);
        x.season(20, 3);
        due("shakings", x.count(3), 21);
        x.season(0, 3);
        x.season(1, 4);
        due("shakings", x.count(3), 21);
        row(x, "");
        x.shake();
        due("shakings, an empty row's too", x.count(3), 22);
        loft(x, "p1");
        heap(x, "5*0");
        due("shakings", x.count(3), 22);
        due("count(4)", x.count(4), 0);
        due("count(-1)", x.count(-1), BAD);
        due("count(5)", x.count(5), BAD);
        due("count(MOST)", x.count(MOST), BAD);
    }

    private static void found() {
        // 50 stays on the first, 25 and 20 (as wide as the mesh) go on; 25 stays on the second, the grain of amount 0 is nowhere.
        SieveLoft x = mill("p40,p20", "50*3$9,25*4$5,20*5$7,10*6$8,10*0$1", "01");
        int[][] due = {{1, 3, 27}, {2, 4, 20}, {12, 11, 77}};
        for (int k = 0; k < 3; k++) {
            for (int what = 0; what < 3; what++) {
                due("found(" + k + ", " + what + ")", x.found(k, what), due[k][what]);
            }
        }
        due("found(-1, 0)", x.found(-1, 0), BAD);
        due("found(3, 0)", x.found(3, 0), BAD);
        due("found(0, -1)", x.found(0, -1), BAD);
        due("found(0, 3)", x.found(0, 3), BAD);
        // The other way round all that stays does so on the upper one: an empty heap is worth nothing.
        row(x, "10");
        due("found(0, 2)", x.found(0, 2), 35);
        due("found(1, 0)", x.found(1, 0), 0);
        due("found(1, 2)", x.found(1, 2), 0);
        due("found(2, 0)", x.found(2, 0), 12);
        // What chokes keeps all that came to it.
        SieveLoft y = mill("p40,p20h8", "50*3,25*4,24*5,10*6", "01");
        due("found(0, 0)", y.found(0, 0), 1);
        due("found(1, 0)", y.found(1, 0), 14);
        due("found(2, 0)", y.found(2, 0), 0);
        due("found changes nothing", y.count(3), 0);
        // Six sieves, seven heaps.
        SieveLoft z = mill("p55,p45,p35,p25,p15,p5", "60,40,30,10,5", "012345");
        int[] heaps = {1, 0, 2, 4, 0, 8, 16};
        for (int k = 0; k < 7; k++) {
            due("found(" + k + ", 0)", z.found(k, 0), heaps[k]);
        }
        due("found(7, 0)", z.found(7, 0), BAD);
    }

    private static void where() {
        SieveLoft x = mill("p40,t1,k20", "50,40,21,20,5*0", "012");
        due("where(0)", x.where(0), 0);
        due("where(1)", x.where(1), 2);
        due("where(2)", x.where(2), 2);
        due("where(3)", x.where(3), 3);
        due("where(4)", x.where(4), NONE);
        due("where(5)", x.where(5), BAD);
        due("where(-1)", x.where(-1), BAD);
        due("where(MOST)", x.where(MOST), BAD);
    }

    private static void chokes() {
        SieveLoft x = mill("p40h2,p20h9,s10h3,t5h1", "50*3,30*4,15*5,5*6", "0123");
        due("the first", x.chokes(), 1);
        x.set(0, 1, 2);
        due("just what it holds is not too much", x.chokes(), 4);
        row(x, "210");
        due("the amounts together", x.chokes(), 1);
        row(x, "3012");
        due("a torn one never chokes", x.chokes(), 8);
        row(x, "");
        due("an empty row", x.chokes(), 0);
        row(x, "01");
        due("none", x.chokes(), 0);
        SieveLoft y = mill("p20h8,p30h1", "25*4,24*5", "01");
        due("to the second nothing came", y.chokes(), 1);
        SieveLoft z = mill("p30h1,p20h8", "25*4,24*5", "01");
        due("the second", z.chokes(), 2);
        due("chokes changes nothing", z.count(3), 0);
    }

    private static void shake() {
        SieveLoft x = mill("p30w3,s30w3,k30w3,t30w3,p59w2,k57w3", "10*2$5,20*3$4", "012345");
        due("shake()", x.shake(), 20);
        int[] mesh = {33, 30, 36, 36, 60, 60};
        for (int s = 0; s < 6; s++) {
            due("mesh of " + s, x.told(s, 1), mesh[s]);
        }
        due("amounts stay", x.count(4), 5);
        due("count(3)", x.count(3), 1);
        due("shake()", x.shake(), 20);
        due("mesh", x.told(0, 1), 36);
        due("mesh", x.told(2, 1), 42);
        // Through the lower one nothing falls, through the upper one something does.
        SieveLoft y = mill("p30w1,k5w1,p40w1", "10*2$5,40*3$4", "01");
        due("shake()", y.shake(), 22);
        due("mesh", y.told(0, 1), 31);
        due("mesh", y.told(1, 1), 5);
        due("mesh of one that is not in the row", y.told(2, 1), 40);
        // Choked: nothing falls.
        SieveLoft z = mill("p30h2w1,p20w1", "10*2$5,40*3$4", "01");
        due("shake()", z.shake(), 20);
        due("mesh", z.told(0, 1), 30);
        due("mesh", z.told(1, 1), 20);
        // What is of amount 0 does not fall.
        SieveLoft v = mill("p30w1", "10*0", "0");
        due("shake()", v.shake(), 0);
        due("mesh", v.told(0, 1), 30);
        due("count(3)", v.count(3), 1);
        // The value is that of the shaking before the mesh gets wider.
        SieveLoft w = mill("p19w1", "20*1$9,10*1$5", "0");
        due("shake()", w.shake(), 14);
        due("shake()", w.shake(), 10);
    }

    private static void lasts() {
        SieveLoft x = mill("p30w1", "35,10", "0");
        due("lasts()", x.lasts(), 5);
        due("nothing changes", x.told(0, 1), 30);
        due("nothing changes", x.count(3), 0);
        x.shake();
        due("lasts()", x.lasts(), 4);
        x.set(1, 0, 36);
        due("nothing falls, nothing wears", x.lasts(), 200);
        x.set(1, 0, 10);
        x.set(0, 0, 32);
        due("lasts()", x.lasts(), 1);
        due("steel", lastsOf("s30w3", "35,10", "0"), 200);
        due("silk", lastsOf("k30w1", "35,10", "0"), 3);
        due("torn", lastsOf("t30w1", "35,10", "0"), 200);
        due("no row", lastsOf("p30w1", "35,10", ""), 200);
        due("a grain wanders below the first place", lastsOf("p50w1,p20w2", "30,10,5", "01"), 5);
        due("choked all along", lastsOf("p50w1,p20h1w3", "50,22,22,5", "01"), 200);
        due("choked, it does not wear; the upper one does", lastsOf("p18w1,p10h5", "20*6,5", "01"), 2);
        SieveLoft none = new SieveLoft();
        due("no grains", none.lasts(), 200);
    }

    private static int lastsOf(String loft, String heap, String row) {
        return mill(loft, heap, row).lasts();
    }

    private static void best() {
        // 100 for all in one heap; the first sieve parts 50 from 10, the second does so, too, the third parts nothing.
        SieveLoft x = mill("p20,s30,p60", "50*10$9,10*10$5", "2");
        due("best(0, -2)", x.best(0, -2), 100);
        due("best(0, -1)", x.best(0, -1), 0);
        due("best(0, 0)", x.best(0, 0), NONE);
        due("best(1, -2)", x.best(1, -2), 140);
        due("best(1, -1)", x.best(1, -1), 1);
        due("best(1, 0), of like ones the first", x.best(1, 0), 0);
        due("best(1, 1)", x.best(1, 1), NONE);
        due("best(4, -1), of like ones the fewest", x.best(4, -1), 1);
        x.mend(0, 5);
        due("best(4, 0)", x.best(4, 0), 1);
        due("best(4, -1)", x.best(4, -1), 1);
        x.mend(1, 60);
        due("best(4, -1)", x.best(4, -1), 0);
        due("best(4, 0)", x.best(4, 0), NONE);
        int[][] bad = {{-1, 0}, {5, 0}, {2, -3}, {2, 4}, {LEAST, 0}, {MOST, 0}, {2, LEAST}, {2, MOST}};
        for (int[] b : bad) {
            due("bad best", x.best(b[0], b[1]), BAD);
        }
        due("nothing is shaken", x.count(3), 0);
        // Five grains of one each and prices 1 .. 5 by size: each sieve that parts is worth something.
        SieveLoft y = mill("p10,p20,p30,p40,p45", "15$2,5$1,25$3,35$4,50$5", "");
        int[] value = {5, 11, 13, 14, 15};
        for (int k = 0; k <= 4; k++) {
            due("best(" + k + ", -2)", y.best(k, -2), value[k]);
            due("best(" + k + ", -1)", y.best(k, -1), k);
        }
        int[] due = {3, 2, 1, 0};
        for (int i = 0; i < 4; i++) {
            due("best(4, " + i + ")", y.best(4, i), due[i]);
        }
        due("best(1, 0), of like ones the first", y.best(1, 0), 1);
        due("best(2, 0)", y.best(2, 0), 2);
        due("best(2, 1)", y.best(2, 1), 0);
        // The order within a row counts: below the first the second would choke.
        SieveLoft z = mill("p10h1,p30", "40*2$9,20*1$5,5*1$1", "");
        due("best(2, -2)", z.best(2, -2), 24);
        due("best(2, 0)", z.best(2, 0), 1);
        due("best(2, 1)", z.best(2, 1), 0);
    }

    private static void parted() {
        SieveLoft x = mill("p30,p20,p10,s20", "50,25,15,5,12*0", "1");
        due("parted(0, -1)", x.parted(0, -1), 0);
        due("parted(0, 0)", x.parted(0, 0), NONE);
        due("parted(1, -1)", x.parted(1, -1), 0);
        due("parted(3, -1)", x.parted(3, -1), 1);
        due("parted(3, 0)", x.parted(3, 0), 0);
        due("parted(6, 0), of like ones the first", x.parted(6, 0), 1);
        due("parted(6, 1)", x.parted(6, 1), NONE);
        due("parted(7, -1)", x.parted(7, -1), 2);
        due("parted(7, 0)", x.parted(7, 0), 0);
        due("parted(7, 1)", x.parted(7, 1), 1);
        due("parted(15, -1)", x.parted(15, -1), 3);
        due("parted(15, 2)", x.parted(15, 2), 2);
        due("parted(15, 3)", x.parted(15, 3), NONE);
        due("an amount of 0 does not count", x.parted(16 + 4, -1), 0);
        int[][] bad = {{-1, -1}, {32, -1}, {LEAST, -1}, {MOST, -1}, {3, -2}, {3, 4}, {3, MOST}, {3, LEAST}};
        for (int[] b : bad) {
            due("bad parted", x.parted(b[0], b[1]), BAD);
        }
        x.set(4, 0, 15);
        x.set(4, 1, 1);
        due("by none", x.parted(4 + 16, -1), NONE);
        due("by none", x.parted(4 + 16, 0), NONE);
        due("nothing is shaken", x.count(3), 0);
        // Five grains need four sieves; a sixth one has no fifth sieve, though there is one.
        SieveLoft y = mill("p10,p20,p30,p40,p50", "55,45,35,25,15,5", "");
        due("parted(31, -1)", y.parted(31, -1), 4);
        for (int i = 0; i < 4; i++) {
            due("parted(31, " + i + ")", y.parted(31, i), 4 - i);
        }
        due("parted(63, -1)", y.parted(63, -1), NONE);
        // A grain that is not in the set makes the first sieve choke.
        SieveLoft z = mill("p20h5,p18", "60*6,30,10", "");
        due("parted(6, 0)", z.parted(6, 0), 1);
        z.set(0, 1, 4);
        due("parted(6, 0)", z.parted(6, 0), 0);
    }

    private static void season() {
        // On four days p19w1 parts 23 from 10 (14); then all is one heap, and the empty row is as good (10).
        SieveLoft x = mill("p19w1,p5", "23*1$9,10*1$5", "1");
        due("season(6, 1)", x.season(6, 1), 4 * 14 + 2 * 10);
        due("the mesh", x.told(0, 1), 23);
        due("the row stays", x.fits(1), bits(1, 5));
        due("shakings", x.count(3), 6);
        due("season(1, 3)", x.season(1, 3), 10);
        x.mend(0, 20);
        due("season(20, 0)", x.season(20, 0), 200);
        due("the mesh", x.told(0, 1), 20);
        int[][] bad = {{0, 1}, {21, 1}, {-1, 1}, {1, -1}, {1, 4}, {MOST, MOST}, {LEAST, LEAST}};
        for (int[] b : bad) {
            due("bad season", x.season(b[0], b[1]), BAD);
        }
        due("shakings", x.count(3), 27);
        // By turns: the first while it parts, then the second.
        SieveLoft y = mill("k21w2,p22w3", "24*2$9,10*1$5", "");
        due("season(3, 1)", y.season(3, 1), 23 + 23 + 15);
        due("the first mesh", y.told(0, 1), 25);
        due("the second mesh", y.told(1, 1), 25);
        due("amounts stay", y.count(4), 3);
        SieveLoft none = new SieveLoft();
        due("without grains", none.season(20, 3), 0);
    }

    private static void fits() {
        SieveLoft x = mill("p40,p20h1,t7,s30", "50*9", "01");
        due("fits(0)", x.fits(0), bits(41, 60));
        due("fits(1)", x.fits(1), bits(21, 40));
        due("fits(2)", x.fits(2), bits(1, 20));
        due("fits(3)", x.fits(3), BAD);
        due("fits(-1)", x.fits(-1), BAD);
        due("fits(MOST)", x.fits(MOST), BAD);
        row(x, "1203");
        due("fits(0)", x.fits(0), bits(21, 60));
        due("fits(1), a torn one", x.fits(1), 0);
        due("fits(2)", x.fits(2), 0);
        due("fits(3)", x.fits(3), 0);
        due("fits(4)", x.fits(4), bits(1, 20));
        row(x, "");
        due("fits(0)", x.fits(0), ALL_60);
    }

    private static void shares() {
        SieveLoft x = new SieveLoft();
        due("3 of 5 and 4 of 2", x.shares(7, 23, 5, 2), 3);
        due("the other way round", x.shares(7, 23, 2, 5), 4);
        due("none of them", x.shares(7, 14, 5, 2), 0);
        due("all of them", x.shares(7, 35, 5, 2), 7);
        due("between", x.shares(7, 24, 5, 2), NONE);
        due("one more", x.shares(7, 16, 3, 2), 2);
        due("one less", x.shares(7, 10, 1, 2), 4);
        due("too light", x.shares(7, 11, 5, 2), NONE);
        due("too heavy", x.shares(7, 38, 5, 2), NONE);
        due("too light", x.shares(7, 11, 2, 5), NONE);
        due("too heavy", x.shares(7, 38, 2, 5), NONE);
        due("the most", x.shares(9999, 9999 * 999 - 998, 999, 1), 9998);
        due("far too heavy", x.shares(1, 9999999, 999, 1), NONE);
        due("far too light", x.shares(9999, 1, 999, 998), NONE);
        int[][] bad = {{0, 5, 1, 2}, {10000, 5, 1, 2}, {5, 0, 1, 2}, {5, 10000000, 1, 2}, {5, 5, 0, 2}, {5, 5, 1000, 2},
            {5, 5, 1, 0}, {5, 5, 1, 1000}, {5, 5, 1, 1}, {LEAST, 5, 1, 2}, {5, LEAST, 1, 2}, {5, 5, MOST, 2}, {5, 5, 1, MOST}};
        for (int[] b : bad) {
            due("bad shares", x.shares(b[0], b[1], b[2], b[3]), BAD);
        }
    }

    private static void image() {
        SieveLoft x = new SieveLoft();
        due("image()", x.image(), 1);
        x.grain(1, 1, 1);
        due("image()", x.image(), 1);
        x.grain(2, 1, 1);
        due("restore()", x.restore(), 1);
        due("the later image", x.count(1), 1);
    }

    private static void restore() {
        SieveLoft x = mill("p30w1,k20", "10*5$3,40*2$4", "01");
        due("restore()", x.restore(), NONE);
        x.shake();
        due("image()", x.image(), 1);
        fill(x, 0, 1, 2, 0);
        x.shake();
        x.mend(1, 2);
        x.sieve(1, 2, 3, 0);
        x.set(0, 0, 60);
        x.set(0, 1, 60);
        x.set(0, 2, 60);
        x.grain(1, 1, 1);
        row(x, "2");
        due("type", typed(x, "p5"), 2);
        due("restore()", x.restore(), 1);
        due("shakings", x.count(3), 1);
        due("sieves", x.count(0), 2);
        due("grains", x.count(1), 2);
        due("the row", x.count(2), 2);
        dueSieve(x, 0, 0, 31, 99999, 1);
        dueSieve(x, 1, 2, 20, 99999, 0);
        due("size", x.set(0, 0, 10), 10);
        due("amount", x.set(0, 1, 5), 5);
        due("price", x.set(0, 2, 3), 3);
        due("the sheet stays as it is", x.torn(0, 1, 0), 128 + 2);
        due("the tape stays as it is", x.loft(), 1);
        due("restore()", x.restore(), 1);
        due("sieves", x.count(0), 2);
        due("where(0)", x.where(0), 2);
        due("where(1)", x.where(1), 0);
    }

    private static void meshes() {
        SieveLoft x = mill("p40,p20,k10,t5", "50,30,15,7*0,15", "0132");
        fill(x, 1, 1, 99, 0, 1, 3, 77, 3, -1);
        due("meshes(0, ..)", x.meshes(0, 1, 1, 1), bits(30, 49));
        due("meshes(1, ..)", x.meshes(1, 1, 1, 1), bits(15, 29));
        due("meshes(2, ..)", x.meshes(2, 1, 1, 1), bits(1, 14));
        due("a torn one", x.meshes(3, 1, 1, 1), NOT);
        due("no such sieve", x.meshes(4, 1, 1, 1), BAD);
        due("no such sieve", x.meshes(-1, 1, 1, 1), BAD);
        due("no such sheet", x.meshes(0, 4, 1, 1), BAD);
        due("no such sheet", x.meshes(0, -1, 1, 1), BAD);
        due("no such lane", x.meshes(0, 1, 3, 1), BAD);
        due("no such lane", x.meshes(0, 1, -1, 1), BAD);
        due("BAD ahead of NOT", x.meshes(3, 1, 3, 1), BAD);
        due("NOT ahead of NULL", x.meshes(3, 0, 1, 1), NOT);
        due("nothing", x.meshes(0, 0, 1, 99), NULL);
        due("another lane", x.meshes(0, 1, 2, 99), CAST);
        due("from 2 on", x.meshes(0, 1, 1, 2), 0);
        due("from 3 on", x.meshes(0, 1, 1, 3), INDEX);
        due("from -1 on", x.meshes(0, 1, 1, -1), INDEX);
        due("from MOST on", x.meshes(0, 1, 1, MOST), INDEX);
        due("from LEAST on", x.meshes(0, 1, 1, LEAST), INDEX);
        due("the mesh stays", x.told(0, 1), 40);
        row(x, "12");
        due("not in the row", x.meshes(0, 1, 1, 1), NOT);
        // With too narrow a mesh it chokes.
        SieveLoft y = mill("p40h2", "50*2,30*1", "0");
        fill(y, 0, 1, 0, 0);
        due("choked, or wide enough for none", y.meshes(0, 0, 1, 0), bits(1, 29));
        y.item(0, 1, 0, 1);
        y.item(0, 1, 1, 1);
        due("wide enough for both", y.meshes(0, 0, 1, 0), bits(50, 60));
        y.item(0, 1, 0, 2);
        due("no such heap", y.meshes(0, 0, 1, 0), 0);
        SieveLoft z = mill("p40", "", "0");
        z.sheet(0, 0, 0);
        due("without grains", z.meshes(0, 0, 0, 0), ALL_60);
        due("without grains", z.meshes(0, 0, 0, 1), INDEX);
        due("without grains", z.meshes(0, 0, 0, -1), INDEX);
    }

    private static void torn() {
        SieveLoft x = mill("p40,p20,t10", "50,30,15,7*0,15", "012");
        fill(x, 1, 1, 99, 0, 1, 3, 77, 3, -1);
        due("as they are, and the torn one", x.torn(1, 1, 1), 128 + 4);
        x.item(1, 1, 2, 3);
        due("the second", x.torn(1, 1, 1), 2);
        x.item(1, 1, 2, 1);
        x.item(1, 1, 1, 1);
        due("the first", x.torn(1, 1, 1), 1);
        x.item(1, 1, 1, 3);
        due("none", x.torn(1, 1, 1), 0);
        due("no such sheet", x.torn(4, 1, 1), BAD);
        due("no such sheet", x.torn(-1, 1, 1), BAD);
        due("no such lane", x.torn(1, 3, 1), BAD);
        due("no such lane", x.torn(1, -1, 1), BAD);
        due("nothing", x.torn(0, 1, 99), NULL);
        due("another lane", x.torn(1, 0, 99), CAST);
        due("from 2 on", x.torn(1, 1, 2), 0);
        due("from 3 on", x.torn(1, 1, 3), INDEX);
        due("from -1 on", x.torn(1, 1, -1), INDEX);
        due("from MOST on", x.torn(1, 1, MOST), INDEX);
        due("nothing changes", x.told(0, 0), 0);
        // Torn, it does not choke.
        SieveLoft y = mill("p40,p20h1", "50,30*2,10", "10");
        fill(y, 0, 1, 1, 2, 2);
        due("the place that chokes", y.torn(0, 1, 0), 1);
        row(y, "");
        fill(y, 0, 1, 0, 0, 0);
        due("an empty row", y.torn(0, 1, 0), 128);
        SieveLoft z = mill("p40", "", "0");
        z.sheet(0, 2, 3);
        due("without grains", z.torn(0, 2, 3), 128 + 1);
        due("without grains", z.torn(0, 2, 4), INDEX);
        due("without grains", z.torn(0, 2, -1), INDEX);
    }

    private static void sheet() {
        SieveLoft x = mill("p40", "50,30", "0");
        due("sheet(0, 0, 24)", x.sheet(0, 0, 24), 24);
        due("sheet(3, 2, 0)", x.sheet(3, 2, 0), 0);
        due("sheet(1, 1, 25)", x.sheet(1, 1, 25), BAD);
        due("sheet(1, 1, MOST)", x.sheet(1, 1, MOST), BAD);
        due("sheet(4, 1, 1)", x.sheet(4, 1, 1), BAD);
        due("sheet(-1, 1, 1)", x.sheet(-1, 1, 1), BAD);
        due("sheet(1, 3, 1)", x.sheet(1, 3, 1), BAD);
        due("sheet(1, -1, 1)", x.sheet(1, -1, 1), BAD);
        due("sheet(1, 1, -1)", x.sheet(1, 1, -1), SIZE);
        due("sheet(1, 1, LEAST)", x.sheet(1, 1, LEAST), SIZE);
        due("BAD ahead of SIZE", x.sheet(4, 1, -1), BAD);
        due("BAD ahead of SIZE", x.sheet(1, 3, -1), BAD);
        due("nothing came", x.drop(1), NULL);
        due("what is refused changes nothing", x.sheet(0, 1, -1), SIZE);
        due("what is refused changes nothing", x.drop(0), 24);
        fill(x, 2, 1, 1, 1);
        due("as if it were torn", x.torn(2, 1, 0), 1);
        due("a new row", x.sheet(2, 2, 2), 2);
        due("of another lane", x.item(2, 1, 0, 0), CAST);
        due("of zeros", x.torn(2, 2, 0), 0);
        x.set(1, 0, 50);
        due("of zeros", x.torn(2, 2, 0), 128);
    }

    private static void drop() {
        SieveLoft x = new SieveLoft();
        x.sheet(2, 0, 7);
        due("drop(2)", x.drop(2), 7);
        due("drop(2)", x.drop(2), NULL);
        x.sheet(3, 0, 0);
        due("drop(3)", x.drop(3), 0);
        due("drop(3)", x.drop(3), NULL);
        due("drop(4)", x.drop(4), BAD);
        due("drop(-1)", x.drop(-1), BAD);
        due("drop(LEAST)", x.drop(LEAST), BAD);
        due("item of nothing", x.item(2, 0, 0, 1), NULL);
    }

    private static void item() {
        // 256 and 65536 end as 0 in the narrower lanes, so heap 0 is borne out there alone.
        SieveLoft x = mill("p40", "50", "0");
        int[][] borne = {{128, 128, 128}, {128, 0, 0}, {128, 128, 0}};
        int[] value = {0, 256, 65536};
        for (int lane = 0; lane < 3; lane++) {
            x.sheet(lane, lane, 3);
            for (int v = 0; v < 3; v++) {
                due("item", x.item(lane, lane, 2, value[v]), 1);
                due("torn", x.torn(lane, lane, 2), borne[v][lane]);
            }
        }
        // With its sign: 255 is -1 as a byte, and the same cut to bits is not 1.
        due("item", x.item(0, 0, 2, 255), 1);
        due("torn", x.torn(0, 0, 2), 0);
        due("item", x.item(0, 0, 2, 257), 1);
        due("torn", x.torn(0, 0, 2), 1);
        due("no such sheet", x.item(4, 0, 0, 1), BAD);
        due("no such sheet", x.item(-1, 0, 0, 1), BAD);
        due("no such lane", x.item(0, 3, 0, 1), BAD);
        due("no such lane", x.item(0, -1, 0, 1), BAD);
        due("nothing", x.item(3, 0, 99, 1), NULL);
        due("another lane", x.item(0, 1, 99, 1), CAST);
        due("below", x.item(0, 0, -1, 1), INDEX);
        due("above", x.item(0, 0, 3, 1), INDEX);
        due("above", x.item(0, 0, MOST, 1), INDEX);
        due("below", x.item(0, 0, LEAST, 1), INDEX);
        x.sheet(1, 1, 0);
        due("of no items", x.item(1, 1, 0, 1), INDEX);
    }

    private static void film() {
        SieveLoft x = mill("p40,p20", "50,30,7*0,10", "01");
        x.sheet(0, 0, 6);
        x.item(0, 0, 0, 9);
        due("film(0, 0, 1)", x.film(0, 0, 1), 4);
        due("as they are", x.torn(0, 0, 1), 128);
        x.set(0, 0, 30);
        due("grain 0 was in 0", x.torn(0, 0, 1), 0);
        // The grain of amount 0 is told as NONE: no heap, once there is some of it.
        x.set(0, 0, 50);
        x.set(2, 1, 1);
        due("NONE is no heap", x.torn(0, 0, 1), 0);
        x.item(0, 0, 3, 2);
        due("as they are", x.torn(0, 0, 1), 128);
        due("film(0, 0, 2)", x.film(0, 0, 2), 4);
        due("film(0, 0, 3)", x.film(0, 0, 3), INDEX);
        due("film(0, 0, -1)", x.film(0, 0, -1), INDEX);
        due("film(0, 0, MOST)", x.film(0, 0, MOST), INDEX);
        due("film(4, 0, 0)", x.film(4, 0, 0), BAD);
        due("film(-1, 0, 0)", x.film(-1, 0, 0), BAD);
        due("film(0, 3, 0)", x.film(0, 3, 0), BAD);
        due("film(0, -1, 0)", x.film(0, -1, 0), BAD);
        due("film(1, 0, 99)", x.film(1, 0, 99), NULL);
        due("film(0, 2, 99)", x.film(0, 2, 99), CAST);
        due("what is refused changes nothing", x.torn(0, 0, 2), 128);
        due("nothing is shaken", x.count(3), 0);
        SieveLoft y = new SieveLoft();
        y.sheet(0, 0, 2);
        due("of none", y.film(0, 0, 2), 0);
        due("of none, above", y.film(0, 0, 3), INDEX);
        due("of none, below", y.film(0, 0, -1), INDEX);
    }

    /** The items of a sheet of shorts, each told by the heap of a lone grain that bears it out. */
    private static void dueItems(SieveLoft x, int sheet, int... items) {
        for (int i = 0; i < items.length; i++) {
            for (int heap = 0; heap < 4; heap++) {
                x.set(0, 0, 60 - 10 * heap);
                due("item " + i + " of sheet " + sheet + " is " + heap, x.torn(sheet, 1, i) & 128, items[i] == heap ? 128 : 0);
            }
        }
    }

    private static void copy() {
        SieveLoft x = mill("p55,p45,p35", "60", "012");
        fill(x, 0, 1, 0, 1, 2, 3, 0);
        fill(x, 1, 1, 3, 3, 3);
        due("copy", x.copy(0, 1, 1, 0, 2), 2);
        dueItems(x, 1, 1, 2, 3);
        dueItems(x, 0, 0, 1, 2, 3, 0);
        due("upwards in the same", x.copy(0, 0, 0, 1, 4), 4);
        dueItems(x, 0, 0, 0, 1, 2, 3);
        due("downwards in the same", x.copy(0, 1, 0, 0, 4), 4);
        dueItems(x, 0, 0, 1, 2, 3, 3);
        due("none", x.copy(0, 5, 1, 3, 0), 0);
        int[][] index = {{0, -1, 1, 0, 0}, {0, 6, 1, 0, 0}, {0, 0, 1, -1, 0}, {0, 0, 1, 4, 0}, {0, 0, 1, 0, -1},
            {0, 0, 1, 0, 4}, {0, 3, 1, 0, 3}, {0, 0, 1, 2, 2}, {0, MOST, 1, MOST, MOST}, {0, 1, 1, 1, MOST}, {0, 0, 1, 0, LEAST}};
        for (int[] c : index) {
            due("copy", x.copy(c[0], c[1], c[2], c[3], c[4]), INDEX);
        }
        dueItems(x, 1, 1, 2, 3);
        x.sheet(3, 2, 3);
        due("unlike lanes", x.copy(0, 0, 3, 0, 99), CAST);
        due("unlike lanes", x.copy(3, 0, 0, 0, 0), CAST);
        due("nothing", x.copy(2, 0, 0, 0, 99), NULL);
        due("nothing", x.copy(3, 0, 2, 0, 99), NULL);
        due("nothing", x.copy(2, 0, 2, 0, 0), NULL);
        due("no such sheet", x.copy(4, 0, 2, 0, 0), BAD);
        due("no such sheet", x.copy(-1, 0, 2, 0, 0), BAD);
        due("no such sheet", x.copy(2, 0, 4, 0, 0), BAD);
        due("no such sheet", x.copy(2, 0, -1, 0, 0), BAD);
    }
}
