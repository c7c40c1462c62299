import java.nio.charset.StandardCharsets;

/** What the tests by hand share: how an answer is checked, how texts come to an object. */
abstract class Checks {
    static final int BAD = SieveLoft.BAD, NOT = SieveLoft.NOT, FULL = SieveLoft.FULL, NONE = SieveLoft.NONE;
    static final int NULL = SieveLoft.NULL, CAST = SieveLoft.CAST, INDEX = SieveLoft.INDEX, SIZE = SieveLoft.SIZE;
    static final int LEAST = Integer.MIN_VALUE, MOST = Integer.MAX_VALUE;
    static final long ALL_60 = (1L << 60) - 1;

    private static String of = "";
    private static int checked = 0, wrong = 0;

    Checks() { }

    /** The checks of one promise, or of another piece of the document. */
    interface Part {
        void check();
    }

    /** Runs the parts, of which the first is for promise 1; ends the machine with 1 if an answer was wrong. */
    static void runPromises(Part... parts) {
        due("number of promises", parts.length, 30);
        runPieces("promise", parts);
    }

    /** Runs the parts, which bear a name and a number from 1 on; ends the machine with 1 if an answer was wrong. */
    static void runPieces(String name, Part... parts) {
        for (int i = 0; i < parts.length; i++) {
            of = name + " " + (i + 1);
            int before = checked;
            parts[i].check();
            due("number of checks, at least 1", Math.min(checked - before, 1), 1);
        }
        System.out.println(checked - wrong + " answers are as due, " + wrong + " are not");
        System.exit(wrong == 0 ? 0 : 1);
    }

    static void due(String call, long got, long want) {
        checked++;
        if (got != want) {
            wrong++;
            System.out.println(of + ": " + call + " answered " + got + ", due is " + want);
        }
    }

    /** Types a text, eight bytes at a time; answers the last answer. */
    static int typed(SieveLoft x, String text) {
        byte[] bytes = text.getBytes(StandardCharsets.US_ASCII);
        int answer = 0;
        for (int i = 0; i < bytes.length; i += 8) {
            int n = Math.min(8, bytes.length - i);
            long w = 0;
            for (int j = 0; j < n; j++) {
                w = w << 8 | bytes[i + j];
            }
            answer = x.type(w, n);
        }
        return answer;
    }

    static int loft(SieveLoft x, String text) {
        typed(x, text);
        return x.loft();
    }

    static int heap(SieveLoft x, String text) {
        typed(x, text);
        return x.heap();
    }

    static int row(SieveLoft x, String text) {
        typed(x, text);
        return x.row();
    }

    static SieveLoft mill(String loft, String heap, String row) {
        SieveLoft x = new SieveLoft();
        if (!loft.isEmpty()) {
            due("loft \"" + loft + "\"", loft(x, loft), loft.split(",").length);
        }
        if (!heap.isEmpty()) {
            due("heap \"" + heap + "\"", heap(x, heap), heap.split(",").length);
        }
        due("row \"" + row + "\"", row(x, row), row.length());
        return x;
    }

    static void dueSieve(SieveLoft x, int s, int kind, int mesh, int holds, int wear) {
        due("told(" + s + ", 0)", x.told(s, 0), kind);
        due("told(" + s + ", 1)", x.told(s, 1), mesh);
        due("told(" + s + ", 2)", x.told(s, 2), holds);
        due("told(" + s + ", 3)", x.told(s, 3), wear);
    }

    /** Fills a new sheet of a lane with items. */
    static void fill(SieveLoft x, int sheet, int lane, int... items) {
        due("sheet", x.sheet(sheet, lane, items.length), items.length);
        for (int i = 0; i < items.length; i++) {
            due("item", x.item(sheet, lane, i, items[i]), 1);
        }
    }

    /** Bits of meshes or sizes from one to another. */
    static long bits(int from, int to) {
        long set = 0;
        for (int i = from; i <= to; i++) {
            set |= 1L << (i - 1);
        }
        return set;
    }
}
