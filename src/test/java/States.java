import java.util.Arrays;

/** Objects in three states, and how it is seen that a refused call left all as it was. */
abstract class States extends Checks {
    /** A new object; one with some of all; one in which nothing more has room. */
    static final int EMPTY = 0, SOME = 1, FULLEST = 2;

    /** The bounds of a number that is never BAD. */
    static final int[] FREE = null;

    private static final String SOME_TAPE = "s3h4w1,k9";
    // 120 bytes, and a loft of 8 sieves.
    private static final String FULL_TAPE = "p5h9w3,".repeat(7) + "k" + "0".repeat(69) + "8";
    // The sizes by which a lone grain comes to the heaps 0 .. 6 of six sieves over one another.
    private static final String SIX_SIEVES = "p50,p40,p30,p20,p10,p5";
    private static final int[] SIZE_FOR_HEAP = {60, 45, 35, 25, 15, 8, 3};
    private static final int[][] LANES = {{-1, -1, -1, -1}, {0, 1, 2, -1}, {0, 1, 2, 1}};
    private static final int[][] LENGTHS = {{0, 0, 0, 0}, {7, 6, 0, 0}, {24, 24, 24, 24}};

    States() { }

    /** A call with its numbers. */
    interface Call {
        long on(SieveLoft x, int... a);
    }

    static SieveLoft withEmptyTape(int state) {
        SieveLoft x = made(state);
        // The text on it is none of a heap, so all else stays.
        x.heap();
        return x;
    }

    static SieveLoft made(int state) {
        SieveLoft x = new SieveLoft();
        if (state == SOME) {
            loft(x, "p40h9w1,k20w2,s10,t5w3");
            heap(x, "50*3$9,30*4$5,15*2$7,7*0$1");
            row(x, "20");
            x.image();
            row(x, "013");
            x.shake();
        } else if (state == FULLEST) {
            x.image();
            loft(x, "p50h99w1,p45,k40w1,s35,k30w2,p25w3,t20w3,p15");
            heap(x, "60*9$9,48*8$8,38*7$7,28*6$6,18*5$5,8*4$4");
            row(x, "024567");
        }
        for (int s = 0; s < 4; s++) {
            if (LANES[state][s] >= 0) {
                x.sheet(s, LANES[state][s], LENGTHS[state][s]);
            }
            for (int i = 0; i < LENGTHS[state][s]; i++) {
                x.item(s, LANES[state][s], i, itemOf(s, i));
            }
        }
        typed(x, state == SOME ? SOME_TAPE : state == FULLEST ? FULL_TAPE : "");
        return x;
    }

    private static int itemOf(int sheet, int i) {
        return (i * 3 + sheet) % 7;
    }

    /** All that can be seen of an object that was made in a state; it is used up by that. */
    static String look(SieveLoft x, int state) {
        StringBuilder b = new StringBuilder();
        lookAtMill(x, b);
        b.append(" tape ").append(x.type(' ', 1)).append(' ').append(x.loft());
        lookAtSieves(x, b);
        b.append(" image ").append(x.restore());
        lookAtMill(x, b);
        loft(x, SIX_SIEVES);
        heap(x, "1,1,1,1,1,1");
        row(x, "012345");
        for (int s = 0; s < 4; s++) {
            b.append(" sheet ");
            for (int from = 0; from < LENGTHS[state][s]; from += 6) {
                b.append(holdsSix(x, s, LANES[state][s], Math.min(from, LENGTHS[state][s] - 6)) ? "as it was" : "changed");
            }
            b.append(x.item(s, LANES[state][s] < 0 ? 0 : LANES[state][s], 24, 0)).append(' ').append(x.drop(s));
        }
        return b.toString();
    }

    /** If six items of a sheet, as the state made them, are the heaps of six grains. */
    private static boolean holdsSix(SieveLoft x, int sheet, int lane, int from) {
        for (int g = 0; g < 6; g++) {
            x.set(g, 0, SIZE_FOR_HEAP[itemOf(sheet, from + g)]);
        }
        return (x.torn(sheet, lane, from) & 128) != 0;
    }

    private static void lookAtSieves(SieveLoft x, StringBuilder b) {
        int sieves = x.count(0);
        for (int s = 0; s < sieves; s++) {
            b.append(" sieve");
            for (int what = 0; what < 4; what++) {
                b.append(' ').append(x.told(s, what));
            }
        }
    }

    private static void lookAtMill(SieveLoft x, StringBuilder b) {
        b.append(" mill");
        for (int what = 0; what < 5; what++) {
            b.append(' ').append(x.count(what));
        }
        lookAtSieves(x, b);
        int places = x.count(2);
        for (int k = 0; k <= places; k++) {
            b.append(" heap ").append(x.found(k, 0)).append(' ').append(x.found(k, 2)).append(' ').append(x.fits(k));
        }
        b.append(" chokes ").append(x.chokes()).append(" lasts ").append(x.lasts());
        b.append(" best ").append(x.best(4, -2)).append(' ').append(x.best(4, 0));
        for (int g = x.count(1) - 1; g >= 0; g--) {
            b.append(" grain ").append(x.set(g, 0, 1)).append(' ').append(x.set(g, 1, 1)).append(' ').append(x.set(g, 2, 1));
        }
    }

    private static String text(String name, int... a) {
        return name + Arrays.toString(a).replace('[', '(').replace(']', ')');
    }

    static void dueOf(int state, String name, Call call, long want, int... a) {
        due(text(name, a), call.on(made(state), a), want);
    }

    /** A text that is read has its fault at a place; then the tape is empty, and all else is as it was. */
    static void dueFault(int state, Call read, String text, int place) {
        SieveLoft x = withEmptyTape(state);
        typed(x, text);
        due("\"" + text + "\"", read.on(x), -20 - place);
        dueSame("\"" + text + "\"", state, x, withEmptyTape(state));
    }

    static void dueSame(String name, int state, SieveLoft x, SieveLoft y) {
        String of = look(x, state), as = look(y, state);
        due(name + " leaves what is seen as \"" + of + "\" instead of \"" + as + "\"", of.equals(as) ? 1 : 0, 1);
    }

    /** A call is answered, and all is as without it. */
    static void dueIdle(int state, String name, Call call, long want, int... a) {
        SieveLoft x = made(state);
        due(text(name, a), call.on(x, a), want);
        dueSame(text(name, a), state, x, made(state));
    }

    /**
     * By turns each number that has bounds at its least and at its greatest, which is not BAD; outside of them it is
     * BAD, and changes nothing.
     */
    static void dueBounds(int state, String name, Call call, int[] good, int[]... bounds) {
        due(text(name, good) + " is BAD", call.on(made(state), good) == BAD ? 1 : 0, 0);
        for (int i = 0; i < bounds.length; i++) {
            if (bounds[i] == FREE) {
                continue;
            }
            int least = bounds[i][0], most = bounds[i][1];
            for (int v : new int[] {least, most}) {
                int[] a = with(good, i, v);
                due(text(name, a) + " is BAD", call.on(made(state), a) == BAD ? 1 : 0, 0);
            }
            for (int v : new int[] {least - 1, most + 1, LEAST, MOST}) {
                dueIdle(state, name, call, BAD, with(good, i, v));
            }
        }
    }

    static int[] with(int[] a, int i, int v) {
        int[] b = a.clone();
        b[i] = v;
        return b;
    }

    static int[] of(int... numbers) {
        return numbers;
    }

    /** Makes the mill one in which a lone grain is put to any of seven heaps, so that items can be seen. */
    static void putSevenHeaps(SieveLoft x) {
        loft(x, SIX_SIEVES);
        heap(x, "1");
        row(x, "012345");
    }

    /** Behind putSevenHeaps: the grain goes to a heap. */
    static void putGrainTo(SieveLoft x, int heap) {
        x.set(0, 0, SIZE_FOR_HEAP[heap]);
    }

    /** Behind putSevenHeaps: a sheet is of a lane and holds just these items, each 0 .. 6. */
    static void dueItems(SieveLoft x, int sheet, int lane, int... items) {
        for (int i = 0; i < items.length; i++) {
            putGrainTo(x, items[i]);
            due("item " + i + " of sheet " + sheet + " is " + items[i], x.torn(sheet, lane, i) & 128, 128);
        }
        due("item " + items.length + " of sheet " + sheet, x.torn(sheet, lane, items.length), INDEX);
    }
}
