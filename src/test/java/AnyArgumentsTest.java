import java.util.function.Supplier;

/** Every call with every mix of strange arguments, on new, busy and full objects, ends with an answer that it may have. */
public final class AnyArgumentsTest extends Answers {
    /** With what is needed to make an object full, an object stays under its 512 calls. */
    private static final int CALLS_OF_AN_OBJECT = 300;
    private static final long[] NEAR = {-1, 0, 1, 2, 3, 400, 9999, 10_000, 10_001, 1_000_000, 1_000_001};
    private static final int[] NEAR_INTS = {-1, 0, 1, 2, 3, 4, 5, 6, 7, 59, 60};

    private final Supplier<FatBalance> make;
    private FatBalance x;
    private int calls = CALLS_OF_AN_OBJECT;

    private AnyArgumentsTest(Supplier<FatBalance> make) {
        this.make = make;
    }

    public static void main(String[] args) {
        new AnyArgumentsTest(FatBalance::new).everyCall();
        new AnyArgumentsTest(Answers::busy).everyCall();
        new AnyArgumentsTest(AnyArgumentsTest::full).everyCall();
        end();
    }

    private static FatBalance full() {
        FatBalance full = withAlike(54);
        due("full: row", full.efficiency(100, 30, 10_000), true);
        for (int i = 0; i < 3; i++) {
            due("full: separate", full.separate(i, 9, 10), 54 + 2 * i);
        }
        for (int i = 1; i < 20; i++) {
            due("full: row", full.efficiency(100 + i, i, 10_000), true);
        }
        for (int i = 0; i < 10; i++) {
            due("full: penalty", full.penalty(10_000, 1 + i), true);
        }
        for (int lot : new int[] {4, 54, 55, 3}) {
            due("full: choose", full.choose(lot), true);
        }
        due("full: standard", full.standard(1, 0, 2), 0);
        return full;
    }

    private void everyCall() {
        long[] longs = java.util.stream.LongStream.concat(java.util.Arrays.stream(FAR), java.util.Arrays.stream(NEAR)).toArray();
        int[] ints = java.util.stream.IntStream.concat(java.util.Arrays.stream(FAR_INTS), java.util.Arrays.stream(NEAR_INTS)).toArray();
        for (long a : longs) {
            for (long b : longs) {
                for (long c : longs) {
                    ofThreeLongs(a, b, c);
                }
                for (int lot : ints) {
                    ofALotAndTwoLongs(lot, a, b);
                }
                dueWithin("penalty", bit(object().penalty(a, b)), 0, 1);
            }
        }
        for (int a : ints) {
            for (int b : ints) {
                for (int c : ints) {
                    dueWithin("yieldOf", object().yieldOf(a, b, c), NONE, 1_000_000L * 930_000 * 109);
                }
                dueWithin("share", object().share(a, b), NONE, 200_000_000);
            }
            dueWithin("choose", bit(object().choose(a)), 0, 1);
            dueWithin("loss", object().loss(a), NONE, 1);
            dueWithin("pay", object().pay(a), NONE, 40_000_000);
            object().clearChosen();
        }
    }

    private void ofThreeLongs(long a, long b, long c) {
        dueWithin("lot", object().lot(a, b, c), FULL, 59);
        dueWithin("standard", object().standard(a, b, c), NONE, 1);
        dueWithin("efficiency", bit(object().efficiency(a, b, c)), 0, 1);
    }

    private void ofALotAndTwoLongs(int lot, long a, long b) {
        dueWithin("solids", bit(object().solids(lot, a, b)), 0, 1);
        dueWithin("separate", object().separate(lot, a, b), FULL, 58);
    }

    private FatBalance object() {
        if (calls == CALLS_OF_AN_OBJECT) {
            x = make.get();
            calls = 0;
        }
        calls++;
        return x;
    }

    private static void dueWithin(String call, long got, long least, long most) {
        sentence("what " + call + " may answer");
        due(call + " answered " + got + "; that it is within " + least + " .. " + most, got >= least && got <= most, true);
    }
}
