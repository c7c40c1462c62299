/**
 * What an earlier call changed shows in the answers of later ones: in several states, for each two calls that may change
 * something, all is asked ahead of them, between them and behind them; the model tells what is due.
 */
public final class PairTest {
    private static final int LOFT = 8, HEAP = 9, ROW = 10;

    /** Something that may change an object. */
    private interface Change {
        void on(Twin t);
    }

    private static final Change[] STATES = {t -> { }, PairTest::some, PairTest::full, PairTest::worn};

    private static final Change[] CHANGES = {
        t -> t.call(2, 25, 7, 4),
        t -> t.call(2, 5, 0, 9),
        t -> t.call(2, 58, 28, 4),
        t -> t.call(2, 61, 7, 4),
        t -> t.call(3, 0, 0, 12),
        t -> t.call(3, 0, 0, 41),
        t -> t.call(3, 1, 1, 0),
        t -> t.call(3, 3, 1, 5),
        t -> t.call(3, 2, 1, 31),
        t -> t.call(3, 1, 2, 1),
        t -> t.call(3, 0, 1, 10000),
        t -> t.call(4, 0, 22, 50, 1),
        t -> t.call(4, 3, 5, 1, 3),
        t -> t.call(4, 4, 22, 50, 1),
        t -> t.call(6, 0, 15),
        t -> t.call(6, 1, 45),
        t -> t.call(6, 3, 45),
        t -> t.call(7, 'p', 1),
        t -> t.call(7, 31, 1),
        t -> t.read(LOFT, "k25w1,p12h9,s44"),
        t -> t.read(LOFT, "k25w1,p12h9,s61"),
        t -> t.read(HEAP, "13*2$3,45$4,30*8$7"),
        t -> t.read(HEAP, "13*2$3,45$4,30*8$7,"),
        t -> t.read(ROW, "21"),
        t -> t.read(ROW, "0 1 0"),
        t -> t.call(LOFT),
        t -> t.call(HEAP),
        t -> t.call(ROW),
        t -> t.call(15),
        t -> t.call(19, 1, 0),
        t -> t.call(19, 3, 2),
        t -> t.call(19, 21, 2),
        t -> t.call(22),
        t -> t.call(23),
        t -> t.call(26, 0, 0, 8),
        t -> t.call(26, 3, 1, 7),
        t -> t.call(26, 1, 0, -1),
        t -> t.call(27, 0),
        t -> t.call(27, 1),
        t -> t.call(28, 0, 0, 2, 1),
        t -> t.call(28, 1, 1, 0, 257),
        t -> t.call(29, 0, 0, 1),
        t -> t.call(29, 1, 1, 0),
        t -> t.call(29, 2, 2, 25),
        t -> t.call(30, 0, 1, 0, 2, 4),
        t -> t.call(30, 2, 0, 2, 1, 5),
        t -> t.call(30, 0, 1, 1, 2, 4)};

    public static void main(String[] args) {
        int wrong = 0, runs = 0;
        for (Change state : STATES) {
            for (Change first : CHANGES) {
                for (Change second : CHANGES) {
                    wrong += wrong < 5 && !holds(state, first, second) ? 1 : 0;
                    runs++;
                }
            }
        }
        System.out.println(wrong == 0 ? runs + " pairs are as the model's" : wrong + " pairs are not as the model's");
        System.exit(wrong == 0 ? 0 : 1);
    }

    private static boolean holds(Change state, Change first, Change second) {
        Twin t = new Twin();
        state.on(t);
        askSome(t);
        first.on(t);
        askSome(t);
        second.on(t);
        askAll(t);
        askWhatGoesByAsking(t);
        if (t.calls() == Twin.CALLS) {
            System.out.println("too many calls");
        }
        return !t.isOver();
    }

    private static void some(Twin t) {
        t.read(LOFT, "p9,k8w1");
        t.read(HEAP, "9*8$7,8*7$6");
        t.read(ROW, "1");
        t.call(15);
        t.call(22);
        t.read(LOFT, "p40h30w1,k30h25w2,s20,t10w3,p15w1");
        t.read(HEAP, "50*3$9,35*4$5,22*6$7,7*0$1,12*5$3");
        t.read(ROW, "021");
        sheets(t, 3, 8);
        t.call(7, '5', 1);
    }

    private static void full(Twin t) {
        t.read(LOFT, "p50h20w1,k40w1,s35,k30w2,p25w3,t20w3,p15,s45h9");
        t.read(HEAP, "60*9$9,48*8$8,38*7$7,28*6$6,18*5$5,8*4$4");
        t.read(ROW, "013456");
        t.call(22);
        t.call(15);
        sheets(t, 4, 9);
    }

    /** Wide enough, by one shaking, for more to come to the lower sieve than it holds. */
    private static void worn(Twin t) {
        t.read(LOFT, "p34w1,k19h5w1,s10,t5w1");
        t.read(HEAP, "50*3$9,35*6$5,19*6$7,5*2$4");
        t.read(ROW, "01");
        t.call(22);
        sheets(t, 3, 7);
    }

    private static void sheets(Twin t, int sheets, int items) {
        for (int sheet = 0; sheet < sheets; sheet++) {
            t.call(26, sheet, sheet % 3, items);
            t.call(29, sheet, sheet % 3, sheet % 2);
        }
    }

    private static void askSome(Twin t) {
        for (int what = 0; what < 5; what++) {
            t.call(11, what);
        }
        t.call(14);
        t.call(16);
        for (int what = 0; what < 3; what++) {
            t.call(12, 0, what);
            t.call(12, t.model.row.size(), what);
        }
        for (int g = 0; g < t.model.grains.size(); g++) {
            t.call(13, g);
        }
        t.call(17, 2, -2);
        t.call(17, 2, 1);
        t.call(18, everyGrain(t) & 7, -1);
        t.call(18, everyGrain(t) & 7, 0);
        t.call(20, 0);
        t.call(20, t.model.row.size());
        for (int s = 0; s < t.model.sieves.size(); s += 2) {
            t.call(5, s, 1);
        }
        for (int sheet = 0; sheet < 4; sheet++) {
            t.call(25, sheet, sheet % 3, sheet % 2);
            t.call(24, sheet, sheet, sheet % 3, sheet % 2);
        }
    }

    private static int everyGrain(Twin t) {
        return (1 << t.model.grains.size()) - 1;
    }

    private static void askAll(Twin t) {
        askSome(t);
        for (int s = 0; s <= t.model.sieves.size(); s++) {
            for (int what = 0; what < 4; what++) {
                t.call(5, s, what);
            }
            t.call(24, s, 0, 0, 0);
            t.call(24, s, 1, 1, 1);
        }
        for (int k = 0; k <= t.model.row.size() + 1; k++) {
            t.call(12, k, 0);
            t.call(12, k, 2);
            t.call(20, k);
        }
        for (int i = -2; i < 4; i++) {
            t.call(17, 3, i);
        }
        t.call(18, everyGrain(t), -1);
        t.call(18, everyGrain(t) & 27, 1);
        t.call(17, 1, 0);
    }

    private static void askWhatGoesByAsking(Twin t) {
        t.call(7, ' ', 1);
        t.call(LOFT);
        for (int g = 0; g < t.model.grains.size(); g++) {
            for (int what = 2; what >= 0; what--) {
                t.call(3, g, what, 1);
            }
        }
        t.call(23);
        askSome(t);
        askItems(t);
    }

    /** Each item is told by a grain that is in the heap which the model has there. */
    private static void askItems(Twin t) {
        int[] sizeForHeap = {60, 45, 35, 25, 15, 8, 3};
        t.call(10);
        t.read(LOFT, "p50,p40,p30,p20,p10,p5");
        t.read(HEAP, "1,1,1,1,1,1");
        t.read(ROW, "012345");
        for (int sheet = 0; sheet < 4; sheet++) {
            int[] items = t.model.sheets[sheet];
            for (int from = 0; items != null && from + 6 <= items.length; from += Math.max(1, items.length - 6)) {
                for (int g = 0; g < 6; g++) {
                    int heap = items[from + g];
                    t.call(3, g, 1, heap < 0 || heap > 6 ? 0 : 1);
                    t.call(3, g, 0, sizeForHeap[heap < 0 || heap > 6 ? 0 : heap]);
                }
                t.call(25, sheet, t.model.lanes[sheet], from);
            }
            t.call(27, sheet);
        }
    }
}
