/** The sentences of promises 8, 10 and 11 that name a boundary, each at the boundary and on both sides of it. */
public final class BoundaryYieldsTest extends Answers {
    private static final int CHEESE = 0;
    private static final int BUTTER = 1;
    private static final int POWDER = 2;
    private static final int GRAMS = 2;

    public static void main(String[] args) {
        yieldsAreReduced();
        yieldsOfNothing();
        yieldsOfTheGreatest();
        gramsHalvesRoundedUp();
        gramsNextToHalves();
        yieldNoSuchLot();
        yieldNoSuchKind();
        yieldNoSuchPart();
        penaltyFrom();
        penaltyCents();
        lessFatThanFrom();
        tenPenalties();
        payRoundedDown();
        payOfTheGreatest();
        penaltyRoundedUp();
        penaltiesEachByItself();
        payNotBelowZero();
        payOfASeparatedLot();
        payWhenThereIsNone();
        end();
    }

    private static void dueYield(String what, long[] lot, int kind, long above, long below) {
        FatBalance x = withLots(lot);
        due(what + ", above", x.yieldOf(0, kind, 0), above);
        due(what + ", below", x.yieldOf(0, kind, 1), below);
    }

    private static void yieldsAreReduced() {
        sentence("Promise 8: as a reduced fraction: above (part 0), below (part 1)");
        dueYield("butter, one", l(8200, 1, 0), BUTTER, 1, 1);
        dueYield("butter, a little less", l(8199, 1, 0), BUTTER, 8199, 8200);
        dueYield("butter, a little more", l(8201, 1, 0), BUTTER, 8201, 8200);
        dueYield("butter, a 41st", l(200, 1, 0), BUTTER, 1, 41);
        dueYield("butter, the least", l(1, 1, 0), BUTTER, 1, 8200);
        dueYield("butter, without solids", l(8200, 1, 9999), BUTTER, 1, 1);
        dueYield("powder, one", l(9700, 1, 0), POWDER, 1, 1);
        dueYield("powder, one of solids", l(9700, 0, 1), POWDER, 1, 1);
        dueYield("powder, two of both", l(9700, 1, 1), POWDER, 2, 1);
        dueYield("powder, a little less", l(9699, 1, 0), POWDER, 9699, 9700);
        dueYield("powder, the least", l(1, 0, 1), POWDER, 1, 9700);
        // 93 * 109 / 63,000,000 and 75 * 109 / 63,000,000
        dueYield("cheese, the least of fat", l(1, 1, 0), CHEESE, 3379, 21_000_000);
        dueYield("cheese, the least of solids", l(1, 0, 1), CHEESE, 109, 840_000);
        dueYield("cheese, of both", l(1, 1, 1), CHEESE, 109, 375_000);
        dueYield("cheese, a whole number", l(840_000, 0, 1), CHEESE, 109, 1);
        dueYield("cheese, a little less", l(839_999, 0, 1), CHEESE, 839_999L * 109, 840_000);
    }

    private static void yieldsOfNothing() {
        sentence("Promise 8: what holds when there is nothing: 0 / 1, 0 grams");
        FatBalance x = withLots(l(1_000_000, 0, 0), l(1, 2000, 8000), l(1, 0, 1));
        due("separate into 0 and 0 kilograms", x.separate(1, 8, 10), 3);
        for (int kind = CHEESE; kind <= POWDER; kind++) {
            for (int lot : new int[] {0, 3, 4}) {
                due("above", x.yieldOf(lot, kind, 0), 0);
                due("below", x.yieldOf(lot, kind, 1), 1);
                due("grams", x.yieldOf(lot, kind, GRAMS), 0);
            }
        }
        due("no fat, above", x.yieldOf(2, BUTTER, 0), 0);
        due("no fat, below", x.yieldOf(2, BUTTER, 1), 1);
        due("no fat, but solids", x.yieldOf(2, POWDER, 0), 1);
    }

    private static void yieldsOfTheGreatest() {
        sentence("Promise 8: the greatest yields");
        FatBalance x = withLots(l(1_000_000, 10_000, 0), l(1_000_000, 0, 10_000), l(999_999, 9999, 1));
        dueFraction("cheese of fat", x, 0, CHEESE, 1_000_000L * 930_000 * 109, 63_000_000);
        dueFraction("cheese of solids", x, 1, CHEESE, 1_000_000L * 750_000 * 109, 63_000_000);
        dueFraction("cheese of both", x, 2, CHEESE, 999_999L * (93 * 9999 + 75) * 109, 63_000_000);
        due("cheese of fat, grams", x.yieldOf(0, CHEESE, GRAMS), 1_609_047_619L);
        due("cheese of solids, grams", x.yieldOf(1, CHEESE, GRAMS), 1_297_619_048L);
        due("cheese of both, grams", x.yieldOf(2, CHEESE, GRAMS), 1_609_014_867L);
        due("butter, grams", x.yieldOf(0, BUTTER, GRAMS), 1_219_512_195L);
        due("butter of solids, grams", x.yieldOf(1, BUTTER, GRAMS), 0);
        due("powder of fat, grams", x.yieldOf(0, POWDER, GRAMS), 1_030_927_835L);
        due("powder of solids, grams", x.yieldOf(1, POWDER, GRAMS), 1_030_927_835L);
    }

    private static void dueGrams(long kilograms, long fat, long solid, int kind, long grams) {
        String what = "grams of kind " + kind + " of " + kilograms + ", " + fat + ", " + solid;
        due(what, withLots(l(kilograms, fat, solid)).yieldOf(0, kind, GRAMS), grams);
    }

    private static void gramsHalvesRoundedUp() {
        sentence("Promise 8: in grams, halves rounded up (part 2)");
        // cheese is k * (31 f + 25 s) * 109 / 21,000 grams
        dueGrams(10_500, 1, 0, CHEESE, 1690);
        dueGrams(500, 21, 0, CHEESE, 1690);
        dueGrams(10_500, 0, 1, CHEESE, 1363);
        dueGrams(420, 0, 1, CHEESE, 55);
        dueGrams(1260, 0, 1, CHEESE, 164);
        dueGrams(840, 0, 1, CHEESE, 109);
        dueGrams(10_500, 2, 0, CHEESE, 3379);
        dueGrams(10_500, 3, 2, CHEESE, 7794);
        dueGrams(997_500, 9999, 0, CHEESE, 1_604_864_498L);
    }

    private static void gramsNextToHalves() {
        sentence("Promise 8: in grams, halves rounded up: next to a half");
        // a half is 10,500 / 21,000; these are one of 21,000 beside it, or the next that can be
        dueGrams(419, 0, 1, CHEESE, 54);
        dueGrams(421, 0, 1, CHEESE, 55);
        dueGrams(993_157, 9999, 0, CHEESE, 1_597_877_102L);
        dueGrams(994_843, 9999, 0, CHEESE, 1_600_589_686L);
        for (long k = 1; k <= 21_000; k++) {
            long thousandths = k * 31 * 109;
            if (thousandths % 21_000 == 10_499 || thousandths % 21_000 == 10_501) {
                dueGrams(k, 1, 0, CHEESE, thousandths / 21_000 + (thousandths % 21_000 == 10_501 ? 1 : 0));
            }
        }
        // butter is 5 k f / 41 grams, powder 10 k (f + s) / 97: 20 of 41 and 48 of 97 are down, 21 and 49 up
        dueGrams(1, 4, 0, BUTTER, 0);
        dueGrams(4, 1, 0, BUTTER, 0);
        dueGrams(5, 1, 0, BUTTER, 1);
        dueGrams(1, 45, 0, BUTTER, 5);
        dueGrams(1, 46, 0, BUTTER, 6);
        dueGrams(1, 37, 0, BUTTER, 5);
        dueGrams(1, 41, 0, BUTTER, 5);
        dueGrams(1, 0, 4, POWDER, 0);
        dueGrams(1, 0, 5, POWDER, 1);
        dueGrams(1, 2, 2, POWDER, 0);
        dueGrams(1, 2, 3, POWDER, 1);
        dueGrams(1, 0, 97, POWDER, 10);
        for (long parts = 0; parts <= 97; parts++) {
            dueGrams(1, 0, parts, POWDER, 10 * parts / 97 + (10 * parts % 97 >= 49 ? 1 : 0));
        }
    }

    private static void dueNoYield(FatBalance x, int lot, int kind, int part) {
        due("yieldOf(" + lot + ", " + kind + ", " + part + ")", x.yieldOf(lot, kind, part), NONE);
    }

    private static void yieldNoSuchLot() {
        sentence("Promise 8: NONE when there is no such lot");
        FatBalance x = busy();
        for (int kind = CHEESE; kind <= POWDER; kind++) {
            for (int part = 0; part <= GRAMS; part++) {
                due("the first lot", x.yieldOf(0, kind, part) > 0, true);
                due("the last lot", x.yieldOf(6, kind, part) > 0, true);
                dueNoYield(x, -1, kind, part);
                dueNoYield(x, 7, kind, part);
                dueNoYield(x, 60, kind, part);
                for (int far : FAR_INTS) {
                    dueNoYield(x, far, kind, part);
                }
            }
        }
        FatBalance full = withAlike(60);
        due("the last of sixty", full.yieldOf(59, BUTTER, 0), 2500);
        dueNoYield(full, 60, BUTTER, 0);
        dueAlike("reading yields changes nothing", yieldsRead(), busy());
    }

    private static FatBalance yieldsRead() {
        FatBalance x = busy();
        for (int lot = -1; lot < 8; lot++) {
            x.yieldOf(lot, CHEESE, GRAMS);
            x.pay(lot);
        }
        return x;
    }

    private static void yieldNoSuchKind() {
        sentence("Promise 8: NONE when there is no such kind");
        FatBalance x = busy();
        for (int part = 0; part <= GRAMS; part++) {
            dueNoYield(x, 0, -1, part);
            dueNoYield(x, 0, 3, part);
            dueNoYield(x, 0, 4, part);
            for (int far : FAR_INTS) {
                dueNoYield(x, 0, far, part);
            }
        }
        FatBalance y = withLots(l(1000, 400, 900));
        due("kind 0", y.yieldOf(0, 0, GRAMS), 181_148);
        due("kind 1", y.yieldOf(0, 1, GRAMS), 48_780);
        due("kind 2", y.yieldOf(0, 2, GRAMS), 134_021);
    }

    private static void yieldNoSuchPart() {
        sentence("Promise 8: NONE when there is no such part");
        FatBalance x = busy();
        for (int kind = CHEESE; kind <= POWDER; kind++) {
            dueNoYield(x, 0, kind, -1);
            dueNoYield(x, 0, kind, 3);
            dueNoYield(x, 0, kind, 4);
            for (int far : FAR_INTS) {
                dueNoYield(x, 0, kind, far);
                dueNoYield(x, far, far, far);
            }
        }
        due("part 0", x.yieldOf(0, BUTTER, 0), 2000);
        due("part 1", x.yieldOf(0, BUTTER, 1), 41);
        due("part 2", x.yieldOf(0, BUTTER, 2), 48_780);
    }

    private static void dueRefusedPenalty(long from, long cents) {
        dueRefused("penalty(" + from + ", " + cents + ")", x -> bit(x.penalty(from, cents)), FALSE);
    }

    private static void penaltyFrom() {
        sentence("Promise 10: from (1 .. 10,000). False, refused, for other numbers");
        dueRefusedPenalty(0, 1);
        dueRefusedPenalty(-1, 1);
        dueRefusedPenalty(10_001, 1);
        dueRefusedPenalty(10_002, 1);
        for (long far : FAR) {
            dueRefusedPenalty(far, 1);
            dueRefusedPenalty(far, far);
        }
        FatBalance x = withLots(l(100, 0, 1000), l(100, 1, 1000), l(100, 9999, 0), l(100, 10_000, 0));
        due("the least", x.penalty(1, 7), true);
        due("no fat", x.pay(0), 300 - 7);
        due("one part", x.pay(1), 300);
        due("the greatest", x.penalty(10_000, 9), true);
        due("no fat", x.pay(0), 300 - 16);
        due("one part", x.pay(1), 300 - 9);
        due("all but one part", x.pay(2), 3999 - 9);
        due("all fat", x.pay(3), 4000);
    }

    private static void penaltyCents() {
        sentence("Promise 10: so many cents (1 .. 10,000) for 100 kilograms. False, refused, for other numbers");
        dueRefusedPenalty(10_000, 0);
        dueRefusedPenalty(10_000, -1);
        dueRefusedPenalty(10_000, 10_001);
        dueRefusedPenalty(10_000, 10_002);
        for (long far : FAR) {
            dueRefusedPenalty(10_000, far);
        }
        FatBalance x = withLots(l(100, 5000, 0), l(1_000_000, 9999, 0));
        due("the least", x.penalty(10_000, 1), true);
        due("100 kilograms", x.pay(0), 2000 - 1);
        due("1,000,000 kilograms", x.pay(1), 39_996_000 - 10_000);
        FatBalance y = withLots(l(100, 5000, 0), l(1_000_000, 9999, 0), l(10, 5000, 0));
        due("one less than the greatest", y.penalty(10_000, 9999), true);
        due("100 kilograms: all", y.pay(0), 0);
        due("10 kilograms: all", y.pay(2), 0);
        FatBalance z = withLots(l(1, 9999, 0));
        due("the greatest", z.penalty(10_000, 10_000), true);
        due("1 kilogram of 39 cents", z.pay(0), 0);
    }

    private static void lessFatThanFrom() {
        sentence("Promise 10: lots with less fat than from");
        for (long from : l(1, 2, 400, 5000, 9999, 10_000)) {
            FatBalance x = withLots(l(100, from - 1, 0), l(100, from, 0), l(100, Math.min(10_000, from + 1), 0));
            x.solids(0, 10_001 - from, 10_000);
            long below = 100 * (4 * (from - 1) + 3 * (10_001 - from)) / 1000;
            due("before", x.pay(0), below);
            due("penalty", x.penalty(from, 3), true);
            due("one part less than " + from, x.pay(0), below - 3);
            due("just " + from, x.pay(1), 100 * 4 * from / 1000);
            due("one part more than " + from, x.pay(2), 100 * 4 * Math.min(10_000, from + 1) / 1000);
        }
    }

    private static void tenPenalties() {
        sentence("Promise 10: False, refused, when there are ten");
        FatBalance x = withLots(l(1000, 9999, 0));
        for (int i = 1; i <= 9; i++) {
            due("penalty " + i, x.penalty(10_000, i), true);
        }
        due("refused ones are not counted", x.penalty(0, 1), false);
        due("refused ones are not counted", x.penalty(10_001, 1), false);
        due("refused ones are not counted", x.penalty(1, 0), false);
        due("refused ones are not counted", x.penalty(1, 10_001), false);
        due("nine of them", x.pay(0), 39_996 - 450);
        due("penalty 10", x.penalty(10_000, 10), true);
        due("ten of them", x.pay(0), 39_996 - 550);
        for (int i = 0; i < 3; i++) {
            due("penalty 11", x.penalty(10_000, 11), false);
            due("an old one again", x.penalty(10_000, 1), false);
        }
        due("still ten", x.pay(0), 39_996 - 550);
        FatBalance same = withLots(l(1000, 9999, 0));
        for (int i = 1; i <= 10; i++) {
            due("the same, " + i, same.penalty(10_000, 5), true);
            due("each of them holds, " + i, same.pay(0), 39_996 - 50L * i);
        }
        due("the same, 11", same.penalty(10_000, 5), false);
    }

    private static void duePay(long kilograms, long fat, long solid, long cents) {
        due("pay of " + kilograms + ", " + fat + ", " + solid, withLots(l(kilograms, fat, solid)).pay(0), cents);
    }

    private static void payRoundedDown() {
        sentence("Promise 11: k * (4 f + 3 s) / 1,000, rounded down");
        duePay(1, 0, 0, 0);
        duePay(1_000_000, 0, 0, 0);
        duePay(1, 249, 0, 0);
        duePay(1, 250, 0, 1);
        duePay(1, 251, 0, 1);
        duePay(1, 499, 0, 1);
        duePay(1, 500, 0, 2);
        duePay(1, 0, 333, 0);
        duePay(1, 0, 334, 1);
        duePay(333, 0, 1, 0);
        duePay(334, 0, 1, 1);
        duePay(999, 1, 1, 6);
        duePay(1000, 1, 1, 7);
        duePay(1001, 1, 1, 7);
        duePay(1, 1, 332, 1);
        duePay(1, 1, 331, 0);
    }

    private static void payOfTheGreatest() {
        sentence("Promise 11: the greatest pay");
        duePay(1_000_000, 10_000, 0, 40_000_000);
        duePay(1_000_000, 0, 10_000, 30_000_000);
        duePay(1_000_000, 9999, 1, 39_999_000);
        duePay(999_999, 10_000, 0, 39_999_960);
    }

    private static long paid(long kilograms, long fat, long... cents) {
        FatBalance x = withLots(l(kilograms, fat, 0));
        for (long each : cents) {
            due("penalty", x.penalty(10_000, each), true);
        }
        return x.pay(0);
    }

    private static void penaltyRoundedUp() {
        sentence("Promise 11: less cents * k / 100, rounded up");
        due("1 cent, 1 kilogram", paid(1, 5000, 1), 20 - 1);
        due("99 cents, 1 kilogram", paid(1, 5000, 99), 20 - 1);
        due("100 cents, 1 kilogram", paid(1, 5000, 100), 20 - 1);
        due("101 cents, 1 kilogram", paid(1, 5000, 101), 20 - 2);
        due("199 cents, 1 kilogram", paid(1, 5000, 199), 20 - 2);
        due("200 cents, 1 kilogram", paid(1, 5000, 200), 20 - 2);
        due("201 cents, 1 kilogram", paid(1, 5000, 201), 20 - 3);
        due("1 cent, 99 kilograms", paid(99, 5000, 1), 1980 - 1);
        due("1 cent, 100 kilograms", paid(100, 5000, 1), 2000 - 1);
        due("1 cent, 101 kilograms", paid(101, 5000, 1), 2020 - 2);
        due("3 cents, 33 kilograms", paid(33, 5000, 3), 660 - 1);
        due("3 cents, 34 kilograms", paid(34, 5000, 3), 680 - 2);
        due("3000 cents, 1,000,000 kilograms", paid(1_000_000, 9999, 3000), 39_996_000 - 30_000_000);
        due("3999 cents, 999,999 kilograms", paid(999_999, 9999, 3999), 39_995_960 - 39_989_961);
        due("a pay that was rounded down", paid(1, 5249, 1), 20 - 1);
    }

    private static void penaltiesEachByItself() {
        sentence("Promise 11: then for each penalty that holds, in their order");
        due("two halves", paid(50, 5000, 1, 1), 1000 - 2);
        due("three of a third", paid(33, 5000, 1, 1, 1), 660 - 3);
        due("ten of the least", paid(1, 5000, 1, 1, 1, 1, 1, 1, 1, 1, 1, 1), 20 - 10);
        due("different ones", paid(150, 5000, 1, 2, 3), 3000 - 2 - 3 - 5);
        FatBalance x = withLots(l(100, 5000, 0));
        due("one that does not hold", x.penalty(5000, 100), true);
        due("one that holds", x.penalty(5001, 10), true);
        due("another that does not", x.penalty(1, 1000), true);
        due("another that holds", x.penalty(10_000, 1), true);
        due("pay", x.pay(0), 2000 - 11);
    }

    private static void payNotBelowZero() {
        sentence("Promise 11: but not below 0");
        due("one cent is left", paid(100, 5000, 1999), 1);
        due("nothing is left", paid(100, 5000, 2000), 0);
        due("one cent too much", paid(100, 5000, 2001), 0);
        due("far too much", paid(1_000_000, 1, 10_000), 0);
        due("again and again", paid(1_000_000, 1, 10_000, 10_000, 10_000, 10_000, 10_000, 10_000, 10_000, 10_000, 10_000, 10_000), 0);
        due("by the second", paid(100, 5000, 1999, 2), 0);
        due("just by the second", paid(100, 5000, 1999, 1), 0);
        due("nothing less than nothing", paid(1, 0, 1), 0);
        due("first too much, then little", paid(100, 5000, 3000, 1), 0);
        FatBalance x = withLots(l(3, 2000, 0));
        due("penalty", x.penalty(10_000, 10_000), true);
        due("separate into 0 and 2", x.separate(0, 8, 10), 1);
        due("a lot without kilograms", x.pay(1), 0);
    }

    private static void payOfASeparatedLot() {
        sentence("Promise 11: (Of one that was separated, as it was.)");
        FatBalance x = withLots(l(150, 400, 900));
        due("before", x.pay(0), 645);
        due("separate", x.separate(0, 1, 2), 1);
        due("after", x.pay(0), 645);
        due("refused solids", x.solids(0, 0, 1), false);
        due("after refused solids", x.pay(0), 645);
        due("penalty", x.penalty(401, 3), true);
        due("with a penalty", x.pay(0), 640);
        due("other solids of cream", x.solids(1, 0, 1), true);
        due("it stays as it was", x.pay(0), 640);
    }

    private static void payWhenThereIsNone() {
        sentence("Promise 11: NONE when there is none");
        due("a new object", new FatBalance().pay(0), NONE);
        FatBalance x = busy();
        due("pay(-1)", x.pay(-1), NONE);
        due("pay(0)", x.pay(0), 4300 - 90);
        due("pay(6)", x.pay(6) >= 0, true);
        due("pay(7)", x.pay(7), NONE);
        due("pay(60)", x.pay(60), NONE);
        for (int far : FAR_INTS) {
            due("pay(" + far + ")", x.pay(far), NONE);
        }
        FatBalance full = withAlike(60);
        due("pay(59) of sixty", full.pay(59), 2000);
        due("pay(60) of sixty", full.pay(60), NONE);
    }
}
