import java.util.Random;

/** Chance runs of calls of several kinds, each answered by a second, slow model of the document as well. */
public final class ModelTest {
    private static final int RUNS = 150;

    public static void main(String[] args) {
        int wrong = 0, runs = 0;
        for (int[] kind : Chance.KINDS) {
            for (int run = 0; run < RUNS && wrong < 5; run++) {
                wrong += new Chance(new Random(runs), kind).run() ? 0 : 1;
                runs++;
            }
        }
        System.out.println(wrong == 0 ? runs + " runs are as the model's" : wrong + " runs are not as the model's");
        System.exit(wrong == 0 ? 0 : 1);
    }
}
