/**
 * The document sentence by sentence, from its first line to promise 1: runs worked out by hand, in which what an earlier
 * call changed shows in the answers of later ones.
 */
public final class SentenceTest extends Checks {
    private static final int CALLS = 512;

    public static void main(String[] args) {
        runPieces("piece", SentenceTest::calls, SentenceTest::shakings, SentenceTest::readme, SentenceTest::refusals,
            SentenceTest::grains, SentenceTest::kinds, SentenceTest::rows, SentenceTest::shaking, SentenceTest::values,
            SentenceTest::best, SentenceTest::parted, SentenceTest::theRow, SentenceTest::lasts, SentenceTest::season,
            SentenceTest::fits, SentenceTest::meshes, SentenceTest::tornOnes, SentenceTest::shares, SentenceTest::lofts,
            SentenceTest::heaps, SentenceTest::rowTexts, SentenceTest::numbers, SentenceTest::faults, SentenceTest::images,
            SentenceTest::sheets, SentenceTest::objects);
    }

    // ---- what it is

    // "An object is used for at most 512 calls after it has been made."
    private static void calls() {
        SieveLoft x = new SieveLoft();
        due("sieve", x.sieve(0, 1, 99999, 1), 0);
        due("grain", x.grain(1, 2, 3), 0);
        due("grain", x.grain(60, 4, 5), 1);
        due("type", x.type('0', 1), 1);
        due("row", x.row(), 1);
        for (int call = 5; call + 3 <= CALLS; call += 3) {
            int shaken = (call - 5) / 3;
            due("lasts()", x.lasts(), shaken < 59 ? 59 - shaken : 200);
            due("shake()", x.shake(), shaken < 59 ? 26 : 18);
            due("told(0, 1)", x.told(0, 1), Math.min(60, shaken + 2));
        }
        SieveLoft y = new SieveLoft();
        for (int call = 0; call < CALLS; call += 4) {
            due("type", y.type('5', 1), 1);
            due("heap", y.heap(), 1);
            due("image", y.image(), 1);
            due("restore", y.restore(), 1);
        }
    }

    // "SHAKINGS so far (1000000 at most; those of SEASONS, too)": as many as an object has time for.
    private static void shakings() {
        SieveLoft x = new SieveLoft();
        for (int call = 1; call < CALLS; call++) {
            due("season(20, 0)", x.season(20, 0), 0);
        }
        due("count(3)", x.count(3), 20 * (CALLS - 1));
        // So many come back by an image, too.
        SieveLoft y = new SieveLoft();
        for (int i = 0; i < 400; i++) {
            y.season(20, 3);
        }
        y.image();
        y.shake();
        due("count(3)", y.count(3), 8001);
        y.restore();
        due("count(3)", y.count(3), 8000);
        for (int i = 0; i < 100; i++) {
            y.shake();
        }
        due("count(3)", y.count(3), 8100);
    }

    /** What README.md shows. */
    private static void readme() {
        SieveLoft x = new SieveLoft();
        due("sieve", x.sieve(0, 40, 99999, 1), 0);
        due("grain", x.grain(50, 3, 9), 0);
        due("grain", x.grain(10, 6, 5), 1);
        due("type", x.type(0x30, 1), 1);
        due("row", x.row(), 1);
        due("found", x.found(0, 2), 27);
        due("shake", x.shake(), 57);
        due("told", x.told(0, 1), 41);
        due("lasts", x.lasts(), 9);
        due("best", x.best(4, -1), 1);
        due("fits", x.fits(1), bits(1, 41));
        due("type", x.type(0x7033302C6B397732L, 8), 8);
        due("loft", x.loft(), 2);
        dueSieve(x, 0, 0, 30, 99999, 0);
        dueSieve(x, 1, 2, 9, 99999, 2);
        due("type", x.type(0x3031, 2), 2);
        due("row", x.row(), 2);
        due("sheet", x.sheet(0, 0, 2), 2);
        due("film", x.film(0, 0, 0), 2);
        due("meshes", x.meshes(1, 0, 0, 0), bits(1, 9));
        due("torn", x.torn(0, 0, 0), 128);
        due("told", x.told(7, 1), BAD);
    }

    // ---- terms, the first block

    // "Refusals are answers, of several the first that a call names .. What is refused changes nothing, but as told."
    private static void refusals() {
        SieveLoft x = mill("p30w1,t5", "40*2$3,20*4$5", "0");
        x.image();
        fill(x, 0, 0, 0, 1);
        due("grain", x.grain(1, 1, 100), BAD);
        due("set", x.set(0, 1, 10000), BAD);
        due("sieve", x.sieve(0, 61, 1, 0), BAD);
        due("mend", x.mend(0, 61), BAD);
        due("mend", x.mend(1, 60), NOT);
        due("type", x.type(0x301F, 2), BAD);
        due("loft", loft(x, "p5,"), -23);
        due("heap", heap(x, "5*"), -22);
        due("row", row(x, "02"), -21);
        due("season", x.season(21, 1), BAD);
        due("season", x.season(20, 4), BAD);
        due("sheet", x.sheet(0, 0, -1), SIZE);
        due("sheet", x.sheet(0, 0, 25), BAD);
        due("item", x.item(0, 0, 2, 1), INDEX);
        due("item", x.item(0, 1, 2, 1), CAST);
        due("film", x.film(0, 0, 1), INDEX);
        due("copy", x.copy(0, 0, 0, 1, 2), INDEX);
        due("drop", x.drop(1), NULL);
        due("all is as it was: heaps", x.torn(0, 0, 0), 128);
        due("shakings", x.count(3), 0);
        due("value", x.shake(), 26);
        due("the tape", x.type(0x30, 1), 1);
    }

    // "GRAINS 0 .. 5, as they come, have a SIZE (1 .. 60), an AMOUNT (0 .. 9999), a PRICE (0 .. 99)."
    private static void grains() {
        SieveLoft x = mill("p30", "60*9999$99,1*0$0", "0");
        due("the third", x.grain(31, 5, 7), 2);
        due("the upper heap", x.found(0, 0), 1 + 4);
        due("its amounts", x.found(0, 1), 10004);
        due("its value", x.found(0, 2), 10004 * 7);
        due("set", x.set(2, 0, 30), 31);
        due("the lower heap", x.found(1, 2), 35);
        due("set", x.set(2, 2, 8), 7);
        due("the lower heap", x.found(1, 2), 40);
        due("set", x.set(2, 1, 6), 5);
        due("the lower heap", x.found(1, 2), 48);
        due("set", x.set(1, 1, 1), 0);
        due("the lower heap", x.found(1, 2), 0);
        due("the fourth", x.grain(1, 1, 1), 3);
        due("heap", heap(x, "5,6,7,8,9"), 5);
        due("the sixth", x.grain(10, 1, 1), 5);
        due("a seventh", x.grain(10, 1, 1), FULL);
        due("amounts", x.count(4), 6);
    }

    // "0 PLAIN: .. makes its MESH WEAR wider (60 at most); below it 1 STEEL (never wider), 2 SILK (twice WEAR wider);
    // 3 TORN (below SILK: a grain of any SIZE falls through; it gets wider as SILK does)."
    private static void kinds() {
        SieveLoft x = mill("p50w3,s50w3,k50w3,t50w3", "1", "0123");
        int[][] mesh = {{53, 50, 56, 56}, {56, 50, 60, 60}, {59, 50, 60, 60}, {60, 50, 60, 60}, {60, 50, 60, 60}};
        for (int[] m : mesh) {
            x.shake();
            for (int s = 0; s < 4; s++) {
                due("mesh of " + s, x.told(s, 1), m[s]);
            }
        }
        // Once more from where a mended one stands; wear and kind stay as they were told.
        for (int s = 0; s < 4; s++) {
            due("mend(" + s + ", 7)", x.mend(s, 7), s == 3 ? NOT : mesh[4][s]);
        }
        x.shake();
        dueSieve(x, 0, 0, 10, 99999, 3);
        dueSieve(x, 1, 1, 7, 99999, 3);
        dueSieve(x, 2, 2, 13, 99999, 3);
        dueSieve(x, 3, 3, 60, 99999, 3);
        // Size 60 falls through the torn one alone, however narrow its mesh is.
        SieveLoft y = mill("p59,s59,k59,t1w1", "60", "3012");
        due("where(0)", y.where(0), 1);
        y.shake();
        due("the torn one", y.told(3, 1), 3);
        due("one on which all stays", y.told(0, 1), 59);
    }

    // "A ROW is up to 6 unlike SIEVES, the uppermost first."
    private static void rows() {
        SieveLoft x = mill("p10,p20,p30,p40,p50,p60,p5", "55,45,35,25,15,8", "543210");
        for (int g = 0; g < 6; g++) {
            due("where(" + g + ")", x.where(g), g + 1);
        }
        due("the other way round", row(x, "012345"), 6);
        int[] where = {0, 0, 0, 0, 0, 6};
        for (int g = 0; g < 6; g++) {
            due("where(" + g + ")", x.where(g), where[g]);
        }
        due("seven", row(x, "0123456"), -26);
        due("like ones", row(x, "01231"), -24);
        due("the one that was told", x.count(2), 6);
        due("fewer", row(x, "31"), 2);
        int[] fewer = {0, 0, 1, 1, 2, 2};
        for (int g = 0; g < 6; g++) {
            due("where(" + g + ")", x.where(g), fewer[g]);
        }
        due("n sieves have n and 1 heaps", x.found(2, 0), 32 + 16);
        due("n sieves have n and 1 heaps", x.found(3, 0), BAD);
    }

    // "Those whose SIZE is no more than the MESH would fall through, the others stay; if AMOUNTS that stay together are
    // more than it HOLDS, it CHOKES: all that came to it stays. What falls comes to the next one."
    private static void shaking() {
        SieveLoft x = mill("p34h7w1,k29h1w1", "50*3$9,35*4$5,30*2$6,7*0$1", "01");
        due("chokes: 7 is not more than 7, 2 is more than 1", x.chokes(), 2);
        due("the upper heap", x.found(0, 0), 1 + 2);
        due("the middle one", x.found(1, 0), 4);
        due("the last one", x.found(2, 0), 0);
        due("shake()", x.shake(), 7 * 5 + 2 * 6);
        due("something fell through the upper one", x.told(0, 1), 35);
        due("nothing fell through the lower one", x.told(1, 1), 29);
        due("now 35 falls", x.found(1, 0), 2 + 4);
        due("shake()", x.shake(), 3 * 9 + 6 * 5);
        due("set", x.set(3, 1, 5), 0);
        due("what came to the choked one stays, small ones, too", x.found(1, 0), 2 + 4 + 8);
        due("set", x.set(0, 1, 8), 3);
        due("now the upper one chokes", x.chokes(), 1);
        due("all stays", x.found(0, 1), 8 + 4 + 2 + 5);
        due("shake()", x.shake(), 19);
        due("choked, it gets no wider", x.told(0, 1), 36);
        due("mend", x.mend(0, 50), 36);
        due("all comes to the lower one, which chokes", x.chokes(), 2);
        due("the middle heap", x.found(1, 0), 15);
        due("shake()", x.shake(), 19);
        due("all fell through it", x.told(0, 1), 51);
    }

    // "VALUE of a HEAP: its AMOUNTS together times the least PRICE in it (0, if it is empty); of a ROW: of all HEAPS together."
    private static void values() {
        SieveLoft x = mill("p40,p20", "50*3$9,45*4$5,25*2$6,7*5$0,6*1$8", "01");
        due("of the cheapest", x.found(0, 2), 7 * 5);
        due("of one", x.found(1, 2), 12);
        due("a price of 0", x.found(2, 2), 0);
        due("together", x.shake(), 47);
        x.set(3, 1, 0);
        due("an amount of 0 is in no heap", x.found(2, 2), 8);
        due("together", x.shake(), 55);
        x.set(4, 1, 0);
        due("an empty one", x.found(2, 2), 0);
        x.set(0, 2, 4);
        due("the cheapest is another one", x.found(0, 2), 28);
        due("together", x.shake(), 40);
        row(x, "");
        due("all in one", x.shake(), 9 * 4);
    }

    // ---- terms, the second block

    // "BEST: of all ROWS of at most k SIEVES that of the most VALUE (as all is now), of like ones that of the fewest
    // SIEVES, then the first as a row."
    private static void best() {
        // 1 each of prices 4, 3, 2, 1 by size: in one heap 4, parted between 2 and 3 it is 2 * 3 + 2 * 1.
        SieveLoft x = mill("p10w1,p20w1,p30w1", "35$4,25$3,15$2,5$1", "");
        dueBest(x, 0, 4);
        dueBest(x, 1, 8, 1);
        dueBest(x, 2, 9, 1, 0);
        dueBest(x, 3, 10, 2, 1, 0);
        dueBest(x, 4, 10, 2, 1, 0);
        // The two finest are alike in price then, so one sieve fewer does.
        x.set(3, 2, 2);
        dueBest(x, 4, 11, 2, 1);
        x.set(0, 1, 0);
        dueBest(x, 4, 7, 1);
        x.set(0, 1, 1);
        x.set(0, 2, 3);
        dueBest(x, 4, 10, 1);
        // As all is now: it goes with a mesh, with another sieve, with a shaking.
        x.mend(1, 25);
        dueBest(x, 4, 9, 1);
        // By itself the fourth one chokes, but not below the second one.
        due("sieve", x.sieve(1, 20, 1, 0), 3);
        dueBest(x, 1, 9, 1);
        dueBest(x, 4, 10, 1, 3);
        x.set(0, 1, 0);
        dueBest(x, 1, 7, 3);
        due("row", row(x, "0"), 1);
        for (int mesh = 10; mesh < 15; mesh++) {
            due("mesh", x.told(0, 1), mesh);
            x.shake();
        }
        // Now the first one does as the last one does.
        dueBest(x, 1, 7, 0);
        due("loft", loft(x, "s60"), 1);
        dueBest(x, 4, 6);
    }

    private static void dueBest(SieveLoft x, int k, int value, int... row) {
        due("best(" + k + ", -2)", x.best(k, -2), value);
        due("best(" + k + ", -1)", x.best(k, -1), row.length);
        for (int i = 0; i < 4; i++) {
            due("best(" + k + ", " + i + ")", x.best(k, i), i < row.length ? row[i] : NONE);
        }
    }

    // "PARTED for a set of GRAINS: of all ROWS of at most 4 SIEVES by which no two of the set (with an AMOUNT above 0)
    // are in one HEAP that of the fewest SIEVES, of like ones the first as a row; there may be none."
    private static void parted() {
        SieveLoft x = mill("s20,s22w1,p30w1", "35*2,25*3,15*4", "2");
        dueParted(x, 7, 2, 0);
        dueParted(x, 3, 2);
        dueParted(x, 6, 0);
        dueParted(x, 5, 0);
        dueParted(x, 4);
        // By five shakings the last one lets 35 fall as well, and none parts it from 25.
        for (int i = 0; i < 5; i++) {
            x.shake();
        }
        due("none", x.parted(3, -1), NONE);
        due("none", x.parted(3, 0), NONE);
        x.set(0, 1, 0);
        dueParted(x, 7, 0);
        x.set(0, 1, 2);
        x.mend(2, 34);
        dueParted(x, 7, 2, 0);
        // If the first one chokes, another one does; one not in the set makes it choke, too.
        due("loft", loft(x, "s20h4,s22h5,p30"), 3);
        dueParted(x, 6, 1);
        x.set(1, 1, 2);
        dueParted(x, 6, 0);
        due("grain", x.grain(60, 1, 0), 3);
        dueParted(x, 6, 1);
        x.set(3, 1, 2);
        dueParted(x, 6, 2, 0);
    }

    private static void dueParted(SieveLoft x, int set, int... row) {
        due("parted(" + set + ", -1)", x.parted(set, -1), row.length);
        for (int i = 0; i < 4; i++) {
            due("parted(" + set + ", " + i + ")", x.parted(set, i), i < row.length ? row[i] : NONE);
        }
    }

    // "THE ROW is a told one (at first empty). SHAKEN: a SHAKING of it, and MESHES get wider; AMOUNTS stay as they are
    // (there is a new load each time)."
    private static void theRow() {
        SieveLoft x = mill("p20w2,k10w1", "30*3$4,12*5$6", "");
        due("at first empty: one heap", x.found(0, 2), 8 * 4);
        due("shake()", x.shake(), 32);
        due("no mesh gets wider", x.told(0, 1) + x.told(1, 1), 30);
        row(x, "01");
        due("shake()", x.shake(), 42);
        due("the first, through which 12 fell", x.told(0, 1), 22);
        due("the second, on which it stayed", x.told(1, 1), 10);
        due("amounts", x.count(4), 8);
        row(x, "1");
        due("in one heap again", x.shake(), 32);
        due("one that is not in the row", x.told(0, 1), 22);
        x.mend(1, 12);
        due("shake()", x.shake(), 42);
        due("silk", x.told(1, 1), 14);
        due("shakings", x.count(3), 4);
        due("the row stays when a grain or a sieve comes", x.grain(1, 1, 1) + x.sieve(0, 1, 1, 0), 2 + 2);
        due("the row", x.count(2), 1);
        due("loft", loft(x, "p20w2,k10w1"), 2);
        due("empty", x.count(2), 0);
        due("one heap", x.shake(), 9);
    }

    // "LASTS: how many SHAKINGS of THE ROW, one behind the other from now on, make just the HEAPS that the first one
    // does, up to the first that does not (200 at most)."
    private static void lasts() {
        // 33 falls from the sixth shaking on: then it stays on the lower one, which is as wide as 24 by then.
        SieveLoft x = mill("p28w1,k12w1", "33*2$3,25*4$5,6*1$1", "01");
        due("lasts()", x.lasts(), 5);
        for (int left = 4; left > 0; left--) {
            x.shake();
            due("lasts()", x.lasts(), left);
        }
        due("the meshes", x.told(0, 1) * 100 + x.told(1, 1), 3220);
        due("the heaps before", x.found(0, 0) * 100 + x.found(1, 0) * 10 + x.found(2, 0), 124);
        x.shake();
        due("the heaps then", x.found(0, 0) * 100 + x.found(1, 0) * 10 + x.found(2, 0), 34);
        due("25 falls through the lower one, 26 wide, from the third on", x.lasts(), 2);
        x.shake();
        due("mesh", x.told(1, 1), 24);
        due("lasts()", x.lasts(), 1);
        x.shake();
        due("then 33, for one 34 wide", x.lasts(), 4);
        x.set(0, 1, 0);
        due("an amount of 0 is in no heap", x.lasts(), 200);
        due("lasts shakes nothing", x.count(3), 7);
    }

    // "A SEASON: on each day the BEST ROW of at most k SIEVES, as all is that day, is SHAKEN: VALUE of all days together.
    // (THE ROW stays as it was told.)"
    private static void season() {
        // For two days 0 parts (19 and 21 wide, each 2 * 9 + 5), then it is 23 wide, and all is one heap in it: 15.
        SieveLoft x = mill("k19w1,p5w1", "22*2$9,10*1$5", "1");
        due("season(1, 1)", x.season(1, 1), 23);
        due("the mesh of 0", x.told(0, 1), 21);
        due("season(3, 1)", x.season(3, 1), 23 + 15 + 15);
        due("the mesh of 0", x.told(0, 1), 23);
        due("the mesh of 1, which is in the row", x.told(1, 1), 5);
        due("the row", x.count(2), 1);
        due("the row", x.fits(0), bits(6, 60));
        due("shakings", x.count(3), 4);
        // The row is shaken, not the best one.
        x.set(1, 0, 4);
        due("shake()", x.shake(), 23);
        due("the mesh of 1", x.told(1, 1), 6);
        due("the mesh of 0", x.told(0, 1), 23);
        // Now 1 is the best row, for as long as it is below 22; 16 days from 6 on.
        due("season(20, 3)", x.season(20, 3), 16 * 23 + 4 * 15);
        due("the mesh of 1", x.told(1, 1), 22);
        due("season(20, 0)", x.season(20, 0), 300);
        due("shakings", x.count(3), 45);
    }

    // "FITS: a GRAIN alone, of an unknown SIZE, of so small an AMOUNT that nothing CHOKES, would be found in a told HEAP
    // of THE ROW: SIZES by which that is so (bit SIZE less 1)."
    private static void fits() {
        SieveLoft x = mill("p34h1w1,k20h1w1,t3w1", "40*1,10*9", "021");
        dueFits(x, bits(35, 60), 0, bits(21, 34), bits(1, 20));
        due("shake()", x.shake(), 0);
        dueFits(x, bits(36, 60), 0, bits(23, 35), bits(1, 22));
        x.set(0, 1, 9);
        due("choked", x.chokes(), 1);
        dueFits(x, bits(36, 60), 0, bits(23, 35), bits(1, 22));
        x.mend(1, 60);
        dueFits(x, bits(36, 60), 0, 0, bits(1, 35));
        row(x, "1");
        dueFits(x, 0, ALL_60);
        loft(x, "p1");
        dueFits(x, ALL_60);
    }

    private static void dueFits(SieveLoft x, long... sizes) {
        for (int k = 0; k < sizes.length; k++) {
            due("fits(" + k + ")", x.fits(k), sizes[k]);
        }
        due("fits of no heap", x.fits(sizes.length), BAD);
    }

    // "MESHES of a SIEVE: with which MESH of it (1 .. 60) each GRAIN would be found in a told HEAP of THE ROW (bit MESH less 1)."
    private static void meshes() {
        SieveLoft x = mill("p40w3,s20", "50,41,10", "01");
        x.sheet(0, 0, 4);
        due("film", x.film(0, 0, 1), 3);
        due("meshes of 0", x.meshes(0, 0, 0, 1), bits(10, 40));
        due("meshes of 1", x.meshes(1, 0, 0, 1), bits(10, 60));
        x.shake();
        due("41 is told to be above, now as well", x.meshes(0, 0, 0, 1), bits(10, 40));
        due("by no mesh of the lower one it is", x.meshes(1, 0, 0, 1), 0);
        due("film", x.film(0, 0, 1), 3);
        due("meshes of 0", x.meshes(0, 0, 0, 1), bits(41, 49));
        due("meshes of 1", x.meshes(1, 0, 0, 1), bits(10, 40));
        due("no mesh changes", x.told(0, 1) * 100 + x.told(1, 1), 4320);
        // Where the amount is 0, an item counts for nothing.
        x.set(1, 1, 0);
        due("meshes of 0", x.meshes(0, 0, 0, 1), bits(10, 49));
        due("item", x.item(0, 0, 2, 99), 1);
        due("meshes of 1", x.meshes(1, 0, 0, 1), bits(10, 60));
        row(x, "0");
        due("not in the row", x.meshes(1, 0, 0, 1), NOT);
        due("2 is no heap now", x.meshes(0, 0, 0, 1), 0);
    }

    // "TORN ONES: GRAINS were found in told HEAPS of THE ROW: places in THE ROW whose SIEVE, if it were TORN (all others
    // as they are), would make it so, as bits; bit 7: if all are as they are."
    private static void tornOnes() {
        SieveLoft x = mill("p40w3,s20,k9", "50,41,10", "102");
        fill(x, 2, 2, 0, 0, 2);
        due("as they are; nothing is in 1", x.torn(2, 2, 0), 128 + 2);
        row(x, "012");
        due("as they are; nothing is in 1", x.torn(2, 2, 0), 128 + 2);
        x.shake();
        due("41 is in 1 now", x.torn(2, 2, 0), 0);
        x.item(2, 2, 1, 1);
        due("as they are", x.torn(2, 2, 0), 128);
        x.item(2, 2, 1, 2);
        due("if the second were torn", x.torn(2, 2, 0), 2);
        x.item(2, 2, 1, 1);
        x.item(2, 2, 2, 3);
        due("if the last were torn", x.torn(2, 2, 0), 4);
        x.item(2, 2, 2, 2);
        x.item(2, 2, 0, 1);
        due("if the first were torn", x.torn(2, 2, 0), 1);
        due("none is torn by asking", x.told(0, 0) * 100 + x.told(1, 0) * 10 + x.told(2, 0), 12);
        // Two that are torn are too many.
        x.item(2, 2, 0, 2);
        x.item(2, 2, 1, 2);
        due("none", x.torn(2, 2, 0), 0);
    }

    // "SHARES: of n single grains some weigh p each, all others q (1 .. 999, unlike); they weigh w together: how many
    // weigh p, if it can be."
    private static void shares() {
        SieveLoft x = new SieveLoft();
        for (int n = 1; n <= 4; n++) {
            for (int w = 1; w <= 30; w++) {
                int due = NONE;
                for (int of = 0; of <= n; of++) {
                    due = of * 7 + (n - of) * 4 == w ? of : due;
                }
                due("shares(" + n + ", " + w + ", 7, 4)", x.shares(n, w, 7, 4), due);
                due("shares(" + n + ", " + w + ", 4, 7)", x.shares(n, w, 4, 7), due == NONE ? NONE : n - due);
            }
        }
    }

    // "A LOFT is a TEXT: 1 to 8 SIEVES with , between: p s k t (KINDS in this order), a number (MESH), perhaps h and a
    // number (HOLDS; 99999), perhaps w and a digit 0 .. 3 (WEAR; 0): in place of all SIEVES (THE ROW is empty then)."
    private static void lofts() {
        SieveLoft x = mill("p9", "50*3,30*4", "0");
        due("typed in pieces", x.type(0x7034, 2), 2);
        due("typed in pieces", x.type(0x3068, 2), 4);
        due("typed in pieces", x.type(0x32, 1), 5);
        due("typed in pieces", x.type(0x2C6B39, 3), 8);
        due("loft", x.loft(), 2);
        dueSieve(x, 0, 0, 40, 2, 0);
        dueSieve(x, 1, 2, 9, 99999, 0);
        due("the row", x.count(2), 0);
        due("behind them", x.sieve(3, 5, 6, 2), 2);
        due("row", row(x, "0"), 1);
        due("chokes", x.chokes(), 1);
        due("faulty", loft(x, "t50h9w4"), -26);
        due("those told stay", x.count(0), 3);
        due("the row stays", x.chokes(), 1);
        due("loft", loft(x, "s40h3w1,t1"), 2);
        due("the row", x.count(2), 0);
        due("row", row(x, "01"), 2);
        due("chokes no more", x.chokes(), 0);
        due("the third is no more", row(x, "2"), -20);
        due("mend", x.mend(0, 30), 40);
        due("what it holds is of the later loft", x.chokes(), 0);
        due("shake", x.shake(), 0);
        dueSieve(x, 0, 1, 30, 3, 1);
        dueSieve(x, 1, 3, 1, 99999, 0);
    }

    // "A HEAP is a TEXT: 1 to 6 GRAINS with , between: a number (SIZE), perhaps * and a number (AMOUNT; 1), perhaps $ and
    // a number (PRICE; 0): in place of all GRAINS."
    private static void heaps() {
        SieveLoft x = mill("p20w1", "30*3$4,10*5$6", "0");
        x.shake();
        due("heap", heap(x, "21*7$9,20*2"), 2);
        due("the upper heap, 21 wide", x.found(0, 0), 0);
        due("the lower heap", x.found(1, 1), 9);
        due("the price of the second is 0", x.found(1, 2), 0);
        x.set(1, 2, 3);
        due("the lower heap", x.found(1, 2), 27);
        due("faulty", heap(x, "30*3$100"), -25);
        due("those told stay", x.found(1, 2), 27);
        due("heap", heap(x, "60$5"), 1);
        due("the amount is 1", x.found(0, 2), 5);
        due("the second is no more", x.where(1), BAD);
        due("grain", x.grain(5, 2, 2), 1);
        due("shake", x.shake(), 9);
        due("shakings", x.count(3), 2);
        due("the sieve", x.told(0, 1), 22);
    }

    // "A ROW is a TEXT: 0 to 6 unlike digits (SIEVES that there are)."
    private static void rowTexts() {
        SieveLoft x = mill("p20,p10", "30,15,5", "10");
        due("where(1)", x.where(1), 0);
        due("no third sieve", row(x, "012"), -22);
        due("it stays", x.where(1), 0);
        due("sieve", x.sieve(1, 5, 5, 0), 2);
        due("now there is", row(x, "012"), 3);
        due("where(1)", x.where(1), 1);
        due("where(2)", x.where(2), 3);
        due("an empty text", x.row(), 0);
        due("where(2)", x.where(2), 0);
        due("row", row(x, "20"), 2);
        due("the tape is empty then", x.row(), 0);
        due("count(2)", x.count(2), 0);
    }

    // "(Numbers are figures, zeros ahead, too.) .. (blanks do not count, but end a number)"
    private static void numbers() {
        SieveLoft x = mill("", "000050*00003$0009,9", "");
        due("size", x.set(0, 0, 50), 50);
        due("amount", x.set(0, 1, 3), 3);
        due("price", x.set(0, 2, 9), 9);
        due("blanks about each sign", heap(x, "  5 * 6 $ 7 , 8 * 9 "), 2);
        due("amounts", x.count(4), 15);
        due("a blank within a number", heap(x, "5 0"), -22);
        due("a blank within a number", heap(x, "5*1 0"), -24);
        due("a blank within a number", loft(x, "p4 0"), -23);
        due("a blank within a number", loft(x, "p5h4 0"), -25);
        due("blanks about each sign", loft(x, " p 05 h 006 w 1 , t 7 "), 2);
        dueSieve(x, 0, 0, 5, 6, 1);
        due("a wear is a digit", loft(x, "p5w01"), -24);
        due("a wear is a digit", loft(x, "p5w1 1"), -25);
        due("blanks between digits of a row", row(x, " 1 0 "), 2);
        due("no figures", heap(x, "+5"), -20);
        due("no figures", heap(x, "5*-1"), -22);
    }

    // "FAULTS: -20 less the place of the first byte .. that can't stand there (the end: how many bytes there are); of a
    // number that may not be its first byte."
    private static void faults() {
        SieveLoft x = mill("p20", "5", "0");
        due("the end", loft(x, "p20,"), -24);
        due("the end, blanks ahead", loft(x, "p20,  "), -26);
        due("the end", loft(x, "p"), -21);
        due("the end", loft(x, "p20w"), -24);
        due("the end", heap(x, "5*4$"), -24);
        due("a byte", loft(x, "p20k30"), -23);
        due("the first one of two", loft(x, "p20k30;"), -23);
        due("a number that may not be", loft(x, "p20,s0061,x"), -25);
        due("a number that may not be, ahead of a byte", heap(x, "5*12345x"), -22);
        due("a byte ahead of a number that may not be", heap(x, "5x61"), -21);
        due("no ninth", loft(x, "p1,p2,p3,p4,p5,p6,p7,p8,p9"), -43);
        due("no seventh", heap(x, "1,2,3,4,5,6,7"), -31);
        due("what is typed behind a fault is a text of its own", loft(x, "k30"), 1);
        dueSieve(x, 0, 2, 30, 99999, 0);
    }

    // "All but SHEETS, THE TAPE is kept as an IMAGE" .. "All is as it was then"
    private static void images() {
        SieveLoft x = mill("p20w1,k10w1", "30*3$4,5*5$6", "01");
        due("shake", x.shake(), 42);
        due("image", x.image(), 1);
        x.sheet(0, 0, 3);
        for (int i = 0; i < 3; i++) {
            due("shake", x.shake(), 42);
            due("season", x.season(2, 2), 84);
            due("shakings", x.count(3), 4);
            due("loft", loft(x, "s1"), 1);
            due("heap", heap(x, "1,2,3"), 3);
            due("tape", x.type(0x30, 1), 1);
            due("item", x.item(0, 0, i, i), 1);
            due("restore", x.restore(), 1);
            due("the mesh of 0", x.told(0, 1), 21);
            due("the mesh of 1", x.told(1, 1), 12);
            due("the row", x.where(0) * 10 + x.where(1), 2);
            due("shakings", x.count(3), 1);
            due("amounts", x.count(4), 8);
            due("the tape stays", x.row(), 1);
            due("restore", x.restore(), 1);
        }
        due("the sheet stays: 0, 1", x.torn(0, 0, 0), 0);
        due("1, 2, if the first were torn", x.torn(0, 0, 1), 1);
        x.set(1, 0, 15);
        due("0, 1", x.torn(0, 0, 0), 128);
        x.image();
        x.set(1, 0, 5);
        x.restore();
        due("a later image", x.where(1), 1);
    }

    // "sheets 0 .. 3: nothing (at first), or a row of a LANE: 0 bytes, 1 shorts, 2 ints, of 0 to 24 items."
    private static void sheets() {
        SieveLoft x = mill("p40,p20", "50,30,10", "01");
        for (int s = 0; s < 4; s++) {
            due("nothing", x.drop(s), NULL);
        }
        x.sheet(0, 0, 4);
        x.sheet(1, 0, 5);
        x.sheet(2, 2, 24);
        due("film", x.film(0, 0, 1), 3);
        due("copy", x.copy(0, 1, 1, 2, 3), 3);
        due("as they are", x.torn(1, 0, 2), 128);
        x.set(1, 0, 45);
        due("no more", x.torn(1, 0, 2), 0);
        due("film", x.film(0, 0, 0), 3);
        due("as they are", x.torn(0, 0, 0), 128 + 2);
        due("the other one holds what it held", x.torn(1, 0, 2), 0);
        due("copy", x.copy(0, 0, 1, 0, 4), 4);
        due("as they are", x.torn(1, 0, 0), 128 + 2);
        due("the bytes are ints no more", x.copy(0, 0, 2, 0, 1), CAST);
        due("a new row", x.sheet(0, 2, 3), 3);
        due("of zeros", x.torn(0, 2, 0), 0);
        due("film", x.film(0, 2, 0), 3);
        due("copy", x.copy(0, 0, 2, 21, 3), 3);
        due("as they are", x.torn(2, 2, 21), 128 + 2);
        due("drop", x.drop(0), 3);
        due("drop", x.drop(2), 24);
        due("nothing", x.copy(1, 0, 2, 0, 1), NULL);
        due("the other one", x.torn(1, 0, 0), 128 + 2);
    }

    // Promise 1: "No sieves, no grains." Each object is one by itself; the same calls always give the same answers.
    private static void objects() {
        SieveLoft x = mill("p20w1", "30*3$4,5*5$6", "0");
        x.image();
        SieveLoft y = new SieveLoft();
        due("no image", y.restore(), NONE);
        due("no sieves, no grains", y.count(0) + y.count(1) + y.count(2) + y.count(3) + y.count(4), 0);
        y.sieve(1, 30, 1, 0);
        y.shake();
        y.type('9', 1);
        due("the other tape", x.type('0', 1), 1);
        due("the other meshes", x.told(0, 1), 20);
        due("the other shakings", x.count(3), 0);
        for (int i = 0; i < 3; i++) {
            due("best(1, -2)", x.best(1, -2), 42);
            due("lasts()", x.lasts(), 10);
            due("chokes()", x.chokes(), 0);
            due("fits(0)", x.fits(0), bits(21, 60));
            due("parted(3, 0)", x.parted(3, 0), 0);
            due("found(1, 2)", x.found(1, 2), 30);
        }
    }
}
