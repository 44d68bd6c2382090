import java.math.BigInteger;
import java.util.function.Supplier;
import java.util.function.ToLongFunction;

/** What the tests share: comparing answers, under the sentence of the document that is being tested. */
abstract class Answers {
    static final int NONE = -1;
    static final int FULL = -2;
    static final int FALSE = 0;
    static final int TRUE = 1;

    /** Far outside of every range; some become small when they are cut to an int or multiplied by 10,000. */
    static final long[] FAR = {
        Long.MIN_VALUE, Long.MIN_VALUE + 1, Long.MIN_VALUE + 10_000, -(1L << 60), -(1L << 32), -(1L << 32) + 1, Integer.MIN_VALUE - 1L,
        Integer.MIN_VALUE, -1_000_000, -10_000, Integer.MAX_VALUE, Integer.MAX_VALUE + 1L, 1L << 32, (1L << 32) + 1,
        (1L << 32) + 10_000, 1L << 59, 1L << 60, 1_844_674_407_370_956L, 18_446_744_073_709_552L, Long.MAX_VALUE - 10_000,
        Long.MAX_VALUE - 1, Long.MAX_VALUE,
    };

    /** Far outside of every number of a lot, a part, a kind or a day. */
    static final int[] FAR_INTS = {
        Integer.MIN_VALUE, Integer.MIN_VALUE + 1, -65_536, -61, -60, -2, 61, 64, 512, 65_536, Integer.MAX_VALUE - 1, Integer.MAX_VALUE,
    };

    /** above, below: refused wherever a fraction is told. */
    static final long[][] NO_PARTS = {
        // below is not 1 .. 10,000
        {0, 0}, {1, 0}, {-1, 0}, {0, -1}, {-1, -1}, {1, -1}, {-1, -2}, {-5000, -10_000}, {0, 10_001}, {10_001, 10_001},
        {0, 20_000}, {1, 20_000}, {10_000, 20_000}, {20_000, 20_000}, {0, 100_000}, {10, 100_000},
        // below 0 and above 1
        {-1, 1}, {2, 1}, {-1, 2}, {3, 2}, {-1, 10_000}, {10_001, 10_000}, {-1, 9999}, {10_000, 9999}, {-3, 3}, {6, 3},
        {20_000, 10_000}, {-10_000, 10_000},
        // not in whole parts of 10,000
        {1, 3}, {2, 3}, {1, 6}, {1, 7}, {6, 7}, {1, 9}, {1, 32}, {31, 32}, {1, 3125}, {4, 3125}, {1, 6666}, {1, 7500}, {2, 7500},
        {1, 9998}, {1, 9999}, {4999, 9999}, {9998, 9999}, {3333, 9999},
    };

    /** above, below, and the parts of 10,000 that they are. */
    static final long[][] PARTS = {
        {0, 1, 0}, {1, 1, 10_000}, {0, 2, 0}, {1, 2, 5000}, {2, 2, 10_000}, {0, 10_000, 0}, {1, 10_000, 1}, {2, 10_000, 2},
        {4999, 10_000, 4999}, {9999, 10_000, 9999}, {10_000, 10_000, 10_000}, {0, 3, 0}, {3, 3, 10_000}, {0, 7, 0}, {7, 7, 10_000},
        {0, 9999, 0}, {9999, 9999, 10_000}, {3, 6, 5000}, {1, 16, 625}, {2, 32, 625}, {1, 625, 16}, {5, 3125, 16}, {3, 7500, 4},
        {1, 5000, 2}, {4999, 5000, 9998}, {7, 7000, 10},
    };

    private static String sentence = "";
    private static int wrong = 0;

    static void sentence(String words) {
        sentence = words;
    }

    static void due(String call, long got, long want) {
        if (got != want) {
            wrong++;
            if (wrong <= 60) {
                System.out.println("[" + sentence + "] " + call + " answered " + got + ", due is " + want);
            }
        }
    }

    static void due(String call, boolean got, boolean want) {
        due(call, bit(got), bit(want));
    }

    static long bit(boolean answer) {
        return answer ? TRUE : FALSE;
    }

    static void end() {
        System.out.println(wrong == 0 ? "all answers are as due" : wrong + " answers are not as due");
        if (wrong != 0) {
            System.exit(1);
        }
    }

    static long[] l(long... numbers) {
        return numbers;
    }

    /** Lots from 0 on, each {kilograms, fat, solids} in parts of 10,000. */
    static FatBalance withLots(long[]... lots) {
        FatBalance x = new FatBalance();
        for (int i = 0; i < lots.length; i++) {
            due("making lot " + i, x.lot(lots[i][0], lots[i][1], 10_000), i);
            due("solids of lot " + i, x.solids(i, lots[i][2], 10_000), true);
        }
        return x;
    }

    static FatBalance withChosen(long[]... lots) {
        FatBalance x = withLots(lots);
        for (int lot = 0; lot < lots.length; lot++) {
            due("choosing lot " + lot, x.choose(lot), true);
        }
        return x;
    }

    static FatBalance withAlike(int count) {
        FatBalance x = new FatBalance();
        for (int i = 0; i < count; i++) {
            due("making lot " + i, x.lot(100, 1, 2), i);
        }
        return x;
    }

    /** Kilograms, fat and solids can be seen only through yields and, where there are no penalties, the pay. */
    static void dueLot(String what, FatBalance x, int lot, long kilograms, long fat, long solids) {
        dueFraction(what + ", butter", x, lot, 1, kilograms * fat, 8200);
        dueFraction(what + ", powder", x, lot, 2, kilograms * (fat + solids), 9700);
        due(what + ", pay", x.pay(lot), kilograms * (4 * fat + 3 * solids) / 1000);
    }

    static void dueFraction(String what, FatBalance x, int lot, int kind, long above, long below) {
        long divisor = BigInteger.valueOf(above).gcd(BigInteger.valueOf(below)).longValue();
        due(what + ", above", x.yieldOf(lot, kind, 0), above / divisor);
        due(what + ", below", x.yieldOf(lot, kind, 1), below / divisor);
    }

    static void dueShare(String what, FatBalance x, int lot, long above, long below) {
        due(what + ", share(" + lot + ", 0)", x.share(lot, 0), above);
        due(what + ", share(" + lot + ", 1)", x.share(lot, 1), below);
    }

    static void dueNothingMet(String what, FatBalance x, int lots) {
        for (int lot = 0; lot < lots; lot++) {
            dueShare(what, x, lot, NONE, NONE);
        }
    }

    /** A little of everything: 0 and 4 are chosen and met, 1 is separated into 5 and 6, 2 has one kilogram, 3 the most. */
    static FatBalance busy() {
        FatBalance x = withLots(l(1000, 400, 900), l(50, 2000, 500), l(1, 300, 0), l(1_000_000, 9999, 1), l(700, 0, 0));
        due("busy: a row", x.efficiency(10, 30, 10_000), true);
        due("busy: a row", x.efficiency(2000, 10, 10_000), true);
        due("busy: separate", x.separate(1, 1, 2), 5);
        due("busy: a penalty", x.penalty(401, 9), true);
        due("busy: a penalty", x.penalty(300, 5), true);
        due("busy: choose", x.choose(4), true);
        due("busy: choose", x.choose(0), true);
        due("busy: choose", x.choose(5), true);
        due("busy: standard", x.standard(100, 225, 10_000), 0);
        return x;
    }

    /** The call is refused with that answer, and nothing else of a busy object is changed by it. */
    static void dueRefused(String call, ToLongFunction<FatBalance> refused, long answer) {
        dueRefused(call, Answers::busy, refused, answer);
    }

    static void dueRefused(String call, Supplier<FatBalance> make, ToLongFunction<FatBalance> refused, long answer) {
        FatBalance touched = make.get();
        due(call, refused.applyAsLong(touched), answer);
        dueAlike("after " + call, touched, make.get());
    }

    /** Both are used up by this: they are filled to all their limits. */
    static void dueAlike(String what, FatBalance got, FatBalance want) {
        due(what + ": something changed", Probe.of(got).equals(Probe.of(want)), true);
    }
}
