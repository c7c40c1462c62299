import java.util.Arrays;

/** An object and its model: each call is given to both, and what they answer is compared. */
final class Twin {
    /** For how many calls an object is used. */
    static final int CALLS = 512;
    /** The longest text of the tape. */
    static final int TAPE = 120;

    private static final String[] NAMES = {"", "", "grain", "set", "sieve", "told", "mend", "type", "loft", "heap", "row", "count", "found",
        "where", "chokes", "shake", "lasts", "best", "parted", "season", "fits", "shares", "image", "restore", "meshes", "torn", "sheet",
        "drop", "item", "film", "copy"};

    final Model model = new Model();
    private final SieveLoft object = new SieveLoft();
    private final long[][] numbers = new long[CALLS][];
    private final long[] answers = new long[CALLS];
    private final int[] promises = new int[CALLS];
    private int calls = 0;
    private boolean differs = false;

    boolean isOver() {
        return differs || calls >= CALLS;
    }

    boolean differs() {
        return differs;
    }

    int calls() {
        return calls;
    }

    /** A call by the number of its promise; answers what is due. Behind the last call, or the first wrong one, it does nothing. */
    long call(int promise, long... a) {
        if (isOver()) {
            return 0;
        }
        long due = of(model, promise, a), got = of(object, promise, a);
        promises[calls] = promise;
        numbers[calls] = a;
        answers[calls] = got;
        calls++;
        if (got != due) {
            differs = true;
            tell(due);
        }
        return due;
    }

    private void tell(long due) {
        System.out.println("due is " + due + " of the last of");
        for (int i = 0; i < calls; i++) {
            System.out.println(NAMES[promises[i]] + Arrays.toString(numbers[i]) + " = " + answers[i]);
        }
    }

    /** Types a text, so many bytes at a time. */
    void type(String text, int atATime) {
        for (int i = 0; i < text.length(); i += atATime) {
            int n = Math.min(atATime, text.length() - i);
            call(7, word(text.substring(i, i + n)), n);
        }
    }

    /** Types a text and reads it as a loft (8), a heap (9), or a row (10). */
    long read(int promise, String text) {
        type(text, 8);
        return call(promise);
    }

    /** The bytes of a text in their order, the last one lowest. */
    static long word(String text) {
        long w = 0;
        for (int i = 0; i < text.length(); i++) {
            w = w << 8 | text.charAt(i);
        }
        return w;
    }

    private static long of(SieveLoft x, int promise, long[] all) {
        int[] a = ints(all);
        switch (promise) {
            case 2: return x.grain(a[0], a[1], a[2]);
            case 3: return x.set(a[0], a[1], a[2]);
            case 4: return x.sieve(a[0], a[1], a[2], a[3]);
            case 5: return x.told(a[0], a[1]);
            case 6: return x.mend(a[0], a[1]);
            case 7: return x.type(all[0], a[1]);
            case 8: return x.loft();
            case 9: return x.heap();
            case 10: return x.row();
            case 11: return x.count(a[0]);
            case 12: return x.found(a[0], a[1]);
            case 13: return x.where(a[0]);
            case 14: return x.chokes();
            case 15: return x.shake();
            case 16: return x.lasts();
            case 17: return x.best(a[0], a[1]);
            case 18: return x.parted(a[0], a[1]);
            case 19: return x.season(a[0], a[1]);
            case 20: return x.fits(a[0]);
            case 21: return x.shares(a[0], a[1], a[2], a[3]);
            case 22: return x.image();
            case 23: return x.restore();
            case 24: return x.meshes(a[0], a[1], a[2], a[3]);
            case 25: return x.torn(a[0], a[1], a[2]);
            case 26: return x.sheet(a[0], a[1], a[2]);
            case 27: return x.drop(a[0]);
            case 28: return x.item(a[0], a[1], a[2], a[3]);
            case 29: return x.film(a[0], a[1], a[2]);
            default: return x.copy(a[0], a[1], a[2], a[3], a[4]);
        }
    }

    private static long of(Model m, int promise, long[] all) {
        int[] a = ints(all);
        switch (promise) {
            case 2: return m.grain(a);
            case 3: return m.set(a);
            case 4: return m.sieve(a);
            case 5: return m.told(a);
            case 6: return m.mend(a);
            case 7: return m.type(all[0], a[1]);
            case 8: return m.loft();
            case 9: return m.heap();
            case 10: return m.row();
            case 11: return m.count(a[0]);
            case 12: return m.found(a[0], a[1]);
            case 13: return m.where(a[0]);
            case 14: return m.chokes();
            case 15: return m.shake(m.row);
            case 16: return m.lasts();
            case 17: return m.best(a[0], a[1]);
            case 18: return m.parted(a[0], a[1]);
            case 19: return m.season(a[0], a[1]);
            case 20: return m.fits(a[0]);
            case 21: return m.shares(a[0], a[1], a[2], a[3]);
            case 22: return m.image();
            case 23: return m.restore();
            case 24: return m.meshes(a[0], a[1], a[2], a[3]);
            case 25: return m.torn(a[0], a[1], a[2]);
            case 26: return m.sheet(a[0], a[1], a[2]);
            case 27: return m.drop(a[0]);
            case 28: return m.item(a[0], a[1], a[2], a[3]);
            case 29: return m.film(a[0], a[1], a[2]);
            default: return m.copy(a[0], a[1], a[2], a[3], a[4]);
        }
    }

    private static int[] ints(long[] all) {
        int[] a = new int[all.length];
        for (int i = 0; i < a.length; i++) {
            a[i] = (int) all[i];
        }
        return a;
    }
}
