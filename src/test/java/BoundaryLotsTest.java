import java.util.function.ToLongFunction;

/** The sentences of promises 1 to 4, 9 and 12 that name a boundary, each at the boundary and on both sides of it. */
public final class BoundaryLotsTest extends Answers {
    public static void main(String[] args) {
        newHasNoLots();
        newHasNoRowsAndNoPenalties();
        newHasNothingChosenAndNothingMet();
        aLotIsWithoutSolids();
        lotKilogramsOutOfRange();
        lotFatRefused();
        lotFull();
        solidsAreThoseThatWereToldLast();
        solidsNoSuchLot();
        solidsOfASeparatedLot();
        solidsRefusedFractions();
        solidsTooMuchWithTheFat();
        separateNumbersCreamAndSkim();
        separateUnchooses();
        separateNoSuchLot();
        separateASeparatedLot();
        separateWithoutKilograms();
        separateRefusedFractions();
        separateNotInOrder();
        separateFull();
        lossByNumber();
        lossWhenThereWasNone();
        efficiencyKilograms();
        efficiencyRefusedFractions();
        efficiencyGivesWay();
        efficiencyMoreThanTwenty();
        everyBelow();
        upToTheLastCall();
        end();
    }

    private static void newHasNoLots() {
        sentence("Promise 1: No lots");
        FatBalance x = new FatBalance();
        for (int lot : new int[] {0, -1, 1, 59, 60}) {
            due("solids of " + lot, x.solids(lot, 0, 1), false);
            due("separate " + lot, x.separate(lot, 1, 2), NONE);
            due("choose " + lot, x.choose(lot), false);
            due("share of " + lot, x.share(lot, 0), NONE);
            due("yield of " + lot, x.yieldOf(lot, 1, 0), NONE);
            due("pay of " + lot, x.pay(lot), NONE);
        }
        due("the first lot", x.lot(1, 0, 1), 0);
        for (int lot = 1; lot < 60; lot++) {
            due("room for lot " + lot, x.lot(1, 0, 1), lot);
        }
        FatBalance y = new FatBalance();
        due("another object has no lots", y.pay(0), NONE);
        due("the first lot of another", y.lot(1, 0, 1), 0);
    }

    private static void newHasNoRowsAndNoPenalties() {
        sentence("Promise 1: No rows");
        FatBalance x = withLots(l(1000, 1, 0));
        due("the least fat", x.separate(0, 1, 1), 1);
        for (int i = 1; i <= 20; i++) {
            due("room for row " + i, x.efficiency(i, 0, 1), true);
        }
        due("no room for row 21", x.efficiency(21, 0, 1), false);
        sentence("Promise 1: No penalties");
        FatBalance y = withLots(l(1000, 0, 1), l(1_000_000, 1, 0));
        due("the least fat", y.pay(0), 3);
        due("the most kilograms", y.pay(1), 4000);
        for (int i = 1; i <= 10; i++) {
            due("room for penalty " + i, y.penalty(10_000, 1), true);
        }
        due("no room for penalty 11", y.penalty(10_000, 1), false);
        due("separations of a new object", new FatBalance().loss(0), NONE);
    }

    private static void newHasNothingChosenAndNothingMet() {
        sentence("Promise 1: nothing is chosen");
        FatBalance x = withLots(l(1, 0, 0), l(1, 0, 0), l(1, 0, 0), l(1, 0, 0), l(1, 0, 0));
        due("standard of nothing", x.standard(0, 0, 1), NONE);
        for (int lot = 0; lot < 4; lot++) {
            due("choose " + lot, x.choose(lot), true);
        }
        due("a fifth", x.choose(4), false);
        sentence("Promise 1: no standard is met");
        dueNothingMet("before the first standard()", x, 5);
        due("the first standard", x.standard(0, 0, 1), 0);
        dueShare("after it", x, 0, 1, 1);
    }

    private static void aLotIsWithoutSolids() {
        sentence("Promise 2: A lot without solids: its number");
        for (long[] parts : PARTS) {
            FatBalance x = busy();
            due("lot", x.lot(97, parts[0], parts[1]), 7);
            due("powder is of fat alone", x.yieldOf(7, 2, 2), parts[2] * 10);
            FatBalance y = new FatBalance();
            due("lot", y.lot(123_456, parts[0], parts[1]), 0);
            dueLot("lot(123456, " + parts[0] + ", " + parts[1] + ")", y, 0, 123_456, parts[2], 0);
            due("the next number", y.lot(1, parts[0], parts[1]), 1);
        }
    }

    private static void lotKilogramsOutOfRange() {
        sentence("Promise 2: NONE, refused, when kilograms are out of range");
        dueRefusedLot(0, 1, 2);
        dueRefusedLot(-1, 1, 2);
        dueRefusedLot(1_000_001, 1, 2);
        dueRefusedLot(1_000_002, 1, 2);
        for (long far : FAR) {
            dueRefusedLot(far, 1, 2);
        }
        FatBalance x = new FatBalance();
        due("the least that is taken", x.lot(1, 1, 2), 0);
        due("the greatest that is taken", x.lot(1_000_000, 1, 2), 1);
        dueLot("the least", x, 0, 1, 5000, 0);
        dueLot("the greatest", x, 1, 1_000_000, 5000, 0);
    }

    private static void dueRefusedLot(long kilograms, long above, long below) {
        dueRefused("lot(" + kilograms + ", " + above + ", " + below + ")", x -> x.lot(kilograms, above, below), NONE);
    }

    private static void lotFatRefused() {
        sentence("Promise 2: NONE, refused, when fatBelow is not 1 .. 10,000, or fatAbove / fatBelow not 0 to 1 in whole parts");
        for (long[] none : NO_PARTS) {
            dueRefusedLot(1000, none[0], none[1]);
        }
        for (long far : FAR) {
            dueRefusedLot(1000, far, 1);
            dueRefusedLot(1000, far, 10_000);
            dueRefusedLot(1000, 0, far);
            dueRefusedLot(1000, 1, far);
            dueRefusedLot(1000, far, far);
        }
        dueRefusedLot(0, 1, 3);
        dueRefusedLot(Long.MAX_VALUE, Long.MAX_VALUE, Long.MAX_VALUE);
    }

    private static void lotFull() {
        sentence("Promise 2: FULL");
        FatBalance x = withAlike(59);
        due("the sixtieth", x.lot(1_000_000, 1, 1), 59);
        due("one more", x.lot(1_000_000, 1, 1), FULL);
        due("and once more", x.lot(1, 0, 1), FULL);
        due("no kilograms when full", x.lot(0, 0, 1), NONE);
        due("no such fat when full", x.lot(1, 1, 3), NONE);
        due("no such below when full", x.lot(1, 0, 0), NONE);
        dueLot("the sixtieth", x, 59, 1_000_000, 10_000, 0);
        due("pay(60)", x.pay(60), NONE);
    }

    private static void solidsAreThoseThatWereToldLast() {
        sentence("Promise 3: The solids of a lot are above / below: true");
        for (long[] parts : PARTS) {
            FatBalance x = withLots(l(1000, 0, 77), l(2000, 0, 55));
            due("solids", x.solids(0, parts[0], parts[1]), true);
            dueLot("solids(0, " + parts[0] + ", " + parts[1] + ")", x, 0, 1000, 0, parts[2]);
            dueLot("another lot", x, 1, 2000, 0, 55);
            due("again", x.solids(0, 3, 100), true);
            dueLot("again", x, 0, 1000, 0, 300);
        }
        FatBalance x = withChosen(l(10, 100, 0));
        due("solids of a chosen lot", x.solids(0, 2, 100), true);
        due("its solids before", x.standard(100, 0, 10_000), 1);
        due("its solids now", x.standard(100, 200, 10_000), 0);
    }

    private static void dueRefusedSolids(int lot, long above, long below) {
        dueRefused("solids(" + lot + ", " + above + ", " + below + ")", x -> bit(x.solids(lot, above, below)), FALSE);
    }

    private static void solidsNoSuchLot() {
        sentence("Promise 3: False, refused, when there is no such lot");
        dueRefusedSolids(-1, 0, 1);
        dueRefusedSolids(7, 0, 1);
        dueRefusedSolids(8, 0, 1);
        dueRefusedSolids(60, 0, 1);
        for (int far : FAR_INTS) {
            dueRefusedSolids(far, 0, 1);
        }
        FatBalance x = busy();
        due("the first lot", x.solids(0, 0, 1), true);
        due("the last lot", x.solids(6, 0, 1), true);
        FatBalance full = withAlike(60);
        due("lot 59 of sixty", full.solids(59, 1, 2), true);
        due("lot 60 of sixty", full.solids(60, 1, 2), false);
    }

    private static void solidsOfASeparatedLot() {
        sentence("Promise 3: False, refused, when it was separated");
        dueRefusedSolids(1, 0, 1);
        dueRefusedSolids(1, 500, 10_000);
        FatBalance x = withLots(l(1000, 400, 900));
        due("just before", x.solids(0, 8, 100), true);
        due("refused separation", x.separate(0, 4, 100), NONE);
        due("after a refused separation", x.solids(0, 9, 100), true);
        due("separation", x.separate(0, 1, 2), 1);
        due("after the separation", x.solids(0, 8, 100), false);
        dueLot("as it was", x, 0, 1000, 400, 900);
        due("cream", x.solids(1, 1, 2), true);
        due("skim", x.solids(2, 1, 1), true);
    }

    private static void solidsRefusedFractions() {
        sentence("Promise 3: False, refused, when below is not 1 .. 10,000, or it is not 0 to 1 in whole parts of 10,000");
        for (long[] none : NO_PARTS) {
            dueRefusedSolids(4, none[0], none[1]);
        }
        for (long far : FAR) {
            dueRefusedSolids(4, far, 1);
            dueRefusedSolids(4, far, 10_000);
            dueRefusedSolids(4, 0, far);
            dueRefusedSolids(4, 1, far);
            dueRefusedSolids(4, far, far);
        }
    }

    private static void solidsTooMuchWithTheFat() {
        sentence("Promise 3: False, refused, when it is too much with the fat");
        dueRefusedSolids(0, 9601, 10_000);
        dueRefusedSolids(0, 1, 1);
        dueRefusedSolids(3, 2, 10_000);
        dueRefusedSolids(3, 1, 1);
        FatBalance x = busy();
        due("just not too much", x.solids(0, 96, 100), true);
        due("one part less", x.solids(0, 9599, 10_000), true);
        due("the only part", x.solids(3, 1, 10_000), true);
        due("no part", x.solids(3, 0, 10_000), true);
        due("no fat, all solids", x.solids(4, 1, 1), true);
        FatBalance fat = withLots(l(10, 10_000, 0));
        due("one part with all fat", fat.solids(0, 1, 10_000), false);
        due("no part with all fat", fat.solids(0, 0, 10_000), true);
    }

    private static void separateNumbersCreamAndSkim() {
        sentence("Promise 4: the cream's number, the skim's is one more");
        FatBalance x = withLots(l(100, 2000, 800), l(100, 2000, 0));
        due("the first", x.separate(1, 8, 10), 2);
        dueLot("cream", x, 2, 25, 8000, 0);
        dueLot("skim", x, 3, 75, 0, 0);
        due("the second", x.separate(0, 6, 10), 4);
        dueLot("cream", x, 4, 33, 6000, 400);
        dueLot("skim", x, 5, 66, 0, 1000);
        due("cream again", x.separate(2, 1, 1), 6);
        dueLot("cream of cream", x, 6, 20, 10_000, 0);
        due("behind them", x.pay(8), NONE);
        due("a lot behind them", x.lot(1, 0, 1), 8);
        dueLot("the separated one stays", x, 0, 100, 2000, 800);
    }

    private static void separateUnchooses() {
        sentence("Promise 4: the lot is not chosen any more");
        for (int gone = 0; gone < 4; gone++) {
            FatBalance x = withChosen(l(10, 100, 0), l(10, 100, 0), l(10, 100, 0), l(10, 100, 0));
            x.lot(10, 1, 100);
            x.lot(10, 1, 100);
            due("four are chosen", x.choose(4), false);
            due("separate " + gone, x.separate(gone, 1, 2), 6);
            due("the separated lot", x.choose(gone), false);
            due("room for one", x.choose(4), true);
            due("no room for two", x.choose(5), false);
            due("standard", x.standard(1, 0, 100), 0);
            dueShare("the first that is left", x, gone == 0 ? 1 : 0, 1, 1);
            dueShare("the separated lot", x, gone, 0, 1);
        }
        FatBalance only = withChosen(l(10, 100, 0));
        due("separate the only one", only.separate(0, 1, 2), 1);
        due("nothing is chosen", only.standard(1, 0, 100), NONE);
        FatBalance kept = withChosen(l(10, 100, 0));
        due("refused", kept.separate(0, 1, 100), NONE);
        due("still chosen", kept.choose(0), false);
        due("still met", kept.standard(1, 0, 100), 0);
    }

    private static void dueRefusedSeparate(int lot, long above, long below) {
        dueRefused("separate(" + lot + ", " + above + ", " + below + ")", x -> x.separate(lot, above, below), NONE);
    }

    private static void separateNoSuchLot() {
        sentence("Promise 4: NONE, refused, when there is no such lot");
        dueRefusedSeparate(-1, 1, 1);
        dueRefusedSeparate(7, 1, 1);
        dueRefusedSeparate(8, 1, 1);
        dueRefusedSeparate(60, 1, 1);
        for (int far : FAR_INTS) {
            dueRefusedSeparate(far, 1, 1);
        }
        due("the first lot", busy().separate(0, 1, 1), 7);
        due("the last lot with fat", busy().separate(5, 1, 1), 7);
    }

    private static void separateASeparatedLot() {
        sentence("Promise 4: NONE, refused, when it was separated");
        dueRefusedSeparate(1, 1, 2);
        dueRefusedSeparate(1, 1, 1);
        FatBalance x = withLots(l(100, 2000, 0));
        due("once", x.separate(0, 1, 2), 1);
        due("twice", x.separate(0, 1, 2), NONE);
        due("three times", x.separate(0, 1, 1), NONE);
        due("one separation", x.loss(1), NONE);
        due("no lot more", x.pay(3), NONE);
    }

    private static void separateWithoutKilograms() {
        sentence("Promise 4: NONE, refused, when it has no kilograms");
        FatBalance x = withLots(l(4, 2000, 0), l(3, 2000, 0));
        due("separate into 1 and 3", x.separate(0, 8, 10), 2);
        due("separate into 0 and 2", x.separate(1, 8, 10), 4);
        due("no kilograms of cream", x.separate(4, 1, 1), NONE);
        due("no separation more", x.loss(2), NONE);
        due("its solids can be told", x.solids(4, 2, 10), true);
        due("it can be chosen", x.choose(4), true);
        due("still no kilograms", x.separate(4, 1, 1), NONE);
        due("it stays chosen", x.choose(4), false);
        due("1 kilogram of cream", x.separate(2, 1, 1), 6);
        due("1 kilogram into nothing", x.loss(2), 1);
        FatBalance skim = withLots(l(1, 9000, 0), l(10, 9000, 0));
        due("a row", skim.efficiency(1, 10, 10_000), true);
        due("separate", skim.separate(0, 1, 1), 2);
        due("no kilograms of skim", skim.separate(3, 1, 2), NONE);
        due("separate", skim.separate(1, 1, 1), 4);
        due("1 kilogram of skim, but not e < f", skim.separate(5, 1, 2), NONE);
        due("a row below", skim.efficiency(1, 9, 10_000), true);
        due("1 kilogram of skim", skim.separate(5, 1, 2), 6);
        due("no kilograms of skim, e < f", skim.separate(3, 1, 2), NONE);
    }

    private static void separateRefusedFractions() {
        sentence("Promise 4: NONE, refused, when fatBelow is not 1 .. 10,000, or the fat is not 0 to 1 in whole parts of 10,000");
        for (long[] none : NO_PARTS) {
            dueRefusedSeparate(0, none[0], none[1]);
        }
        for (long far : FAR) {
            dueRefusedSeparate(0, far, 1);
            dueRefusedSeparate(0, far, 10_000);
            dueRefusedSeparate(0, 1, far);
            dueRefusedSeparate(0, 5000, far);
            dueRefusedSeparate(0, far, far);
        }
        for (long[] parts : PARTS) {
            FatBalance x = withLots(l(1_000_000, 1, 0));
            due("cream of " + parts[0] + " / " + parts[1], x.separate(0, parts[0], parts[1]), parts[2] > 1 ? 1 : NONE);
            if (parts[2] > 1) {
                dueLot("cream of " + parts[0] + " / " + parts[1], x, 1, 1_000_000 / parts[2], parts[2], 0);
            }
        }
    }

    private static void separateNotInOrder() {
        sentence("Promise 4: NONE, refused, when not e < f < c");
        dueRefusedSeparate(0, 0, 1);
        dueRefusedSeparate(0, 19, 10_000);
        dueRefusedSeparate(0, 399, 10_000);
        dueRefusedSeparate(0, 400, 10_000);
        due("c just above f", busy().separate(0, 401, 10_000), 7);
        dueRefusedSeparate(4, 1, 1);
        dueRefusedSeparate(3, 9998, 10_000);
        dueRefusedSeparate(3, 9999, 10_000);
        due("f just below c", busy().separate(3, 1, 1), 7);
        // lot 2 has one kilogram and fat 300
        dueRefusedByRow("e is f", 300);
        dueRefusedByRow("e above f", 301);
        FatBalance x = busy();
        due("e just below f", x.efficiency(10, 299, 10_000), true);
        due("e just below f", x.separate(2, 1, 1), 7);
    }

    private static void dueRefusedByRow(String what, long left) {
        dueRefused(what, () -> busyLeaving(left), x -> x.separate(2, 1, 1), NONE);
    }

    private static FatBalance busyLeaving(long left) {
        FatBalance x = busy();
        due("a row gives way", x.efficiency(10, left, 10_000), true);
        return x;
    }

    private static void separateFull() {
        sentence("Promise 4: FULL when there is no room for two lots");
        due("with 57 lots", withAlike(57).separate(0, 1, 1), 57);
        due("with 58 lots", withAlike(58).separate(0, 1, 1), 58);
        due("with 59 lots", withAlike(59).separate(0, 1, 1), FULL);
        due("with 60 lots", withAlike(60).separate(0, 1, 1), FULL);
        for (int lots = 59; lots <= 60; lots++) {
            FatBalance x = withAlike(lots);
            x.choose(7);
            due("full", x.separate(7, 1, 1), FULL);
            due("nothing was lost", x.loss(0), NONE);
            due("it stays chosen", x.choose(7), false);
            due("it stays unseparated", x.solids(7, 1, 10), true);
            dueLot("it stays as it was", x, 7, 100, 5000, 1000);
            due("the room stays", x.lot(1, 1, 2), lots == 59 ? 59 : FULL);
            due("no such lot when full", x.separate(60, 1, 1), NONE);
            due("no such fat when full", x.separate(7, 1, 3), NONE);
            due("not f < c when full", x.separate(7, 1, 2), NONE);
        }
        FatBalance y = withAlike(58);
        due("the last room", y.separate(0, 1, 1), 58);
        due("separated, when full", y.separate(0, 1, 1), NONE);
        due("full", y.separate(1, 1, 1), FULL);
        due("not e < f, when full", y.separate(59, 1, 1), NONE);
    }

    private static void lossByNumber() {
        sentence("Promise 9: The kilograms that were lost in separation number day, from 0");
        FatBalance x = withLots(l(1, 2000, 0), l(1_000_000, 5000, 0));
        int cream = 1;
        for (int day = 0; day < 28; day++) {
            due("day " + day + " before", x.loss(day), NONE);
            cream = x.separate(cream, 5001 + day, 10_000);
            due("cream of day " + day, cream, 2 + 2 * day);
            due("day " + day + " is there", x.loss(day) >= 0, true);
        }
        due("the last day before", x.loss(28), NONE);
        due("the last separation", x.separate(0, 8, 10), 58);
        due("the last day", x.loss(28), 1);
        due("the day behind it", x.loss(29), NONE);
        due("no room", x.separate(cream, 1, 1), FULL);
        due("still none", x.loss(29), NONE);
        FatBalance y = withLots(l(4, 2000, 0), l(3, 2000, 0), l(8, 2000, 0));
        y.separate(1, 8, 10);
        y.separate(1, 8, 10);
        y.separate(0, 8, 10);
        due("refused ones are not counted", y.loss(2), NONE);
        due("the first", y.loss(0), 1);
        due("the second", y.loss(1), 0);
    }

    private static void lossWhenThereWasNone() {
        sentence("Promise 9: NONE when there was none");
        FatBalance none = withLots(l(4, 2000, 0));
        FatBalance one = withLots(l(3, 2000, 0));
        one.separate(0, 8, 10);
        due("day 0 of none", none.loss(0), NONE);
        due("day 0 of one", one.loss(0), 1);
        due("day 1 of one", one.loss(1), NONE);
        due("day -1 of one", one.loss(-1), NONE);
        for (int day = 2; day <= 70; day++) {
            due("day " + day + " of one", one.loss(day), NONE);
        }
        for (int far : FAR_INTS) {
            due("day " + far + " of one", one.loss(far), NONE);
            due("day " + far + " of none", none.loss(far), NONE);
        }
    }

    private static void dueRefusedRow(long at, long above, long below) {
        dueRefused("efficiency(" + at + ", " + above + ", " + below + ")", x -> bit(x.efficiency(at, above, below)), FALSE);
    }

    private static void efficiencyKilograms() {
        sentence("Promise 12: at some kilograms (1 .. 1,000,000). False, refused, for other kilograms");
        dueRefusedRow(0, 1, 2);
        dueRefusedRow(-1, 1, 2);
        dueRefusedRow(1_000_001, 1, 2);
        dueRefusedRow(1_000_002, 1, 2);
        for (long far : FAR) {
            dueRefusedRow(far, 1, 2);
        }
        FatBalance x = withLots(l(1, 11, 0), l(1, 10, 0), l(1_000_000, 21, 0), l(1_000_000, 20, 0));
        due("the least", x.efficiency(1, 10, 10_000), true);
        due("the greatest", x.efficiency(1_000_000, 20, 10_000), true);
        due("fat of the row at the least", x.separate(1, 1, 1), NONE);
        due("fat above the row at the least", x.separate(0, 1, 1), 4);
        due("fat of the row at the greatest", x.separate(3, 1, 1), NONE);
        due("fat above the row at the greatest", x.separate(2, 1, 1), 6);
    }

    private static void efficiencyRefusedFractions() {
        sentence("Promise 12: False, refused, for below not 1 .. 10,000, above / below not 0 to 1 in whole parts of 10,000");
        for (long[] none : NO_PARTS) {
            dueRefusedRow(1000, none[0], none[1]);
            dueRefusedRow(10, none[0], none[1]);
        }
        for (long far : FAR) {
            dueRefusedRow(10, far, 1);
            dueRefusedRow(10, far, 10_000);
            dueRefusedRow(10, 0, far);
            dueRefusedRow(10, 1, far);
            dueRefusedRow(10, far, far);
        }
        for (long[] parts : PARTS) {
            dueRowIsTaken(parts);
        }
    }

    /** Half the way from no fat to the row shows it, even when it leaves all the fat. */
    private static void dueRowIsTaken(long[] parts) {
        FatBalance x = new FatBalance();
        due("no fat", x.efficiency(1, 0, 1), true);
        due("row of " + parts[0] + " / " + parts[1], x.efficiency(3, parts[0], parts[1]), true);
        due("no more than it leaves", x.separate(x.lot(2, parts[2] / 2, 10_000), 1, 1), NONE);
        due("more than it leaves", x.separate(x.lot(2, parts[2] / 2 + 1, 10_000), 1, 1), 2);
    }

    private static void efficiencyGivesWay() {
        sentence("Promise 12: one that is there at the same gives way to it");
        FatBalance x = withLots(l(100, 20, 0), l(100, 10, 0), l(99, 11, 0), l(101, 11, 0), l(100, 31, 0));
        due("a row", x.efficiency(100, 20, 10_000), true);
        due("what it leaves", x.separate(0, 1, 1), NONE);
        due("the same row again", x.efficiency(100, 20, 10_000), true);
        due("what it leaves", x.separate(0, 1, 1), NONE);
        due("less", x.efficiency(100, 10, 10_000), true);
        due("what it leaves now", x.separate(1, 1, 1), NONE);
        due("more than that", x.separate(0, 1, 1), 5);
        due("before it", x.separate(2, 1, 1), 7);
        due("behind it", x.separate(3, 1, 1), 9);
        due("more", x.efficiency(100, 31, 10_000), true);
        due("what it leaves now", x.separate(4, 1, 1), NONE);
        for (int i = 0; i < 30; i++) {
            due("again and again", x.efficiency(100, i, 10_000), true);
        }
        for (int i = 1; i < 20; i++) {
            due("it was one row: room for row " + (i + 1), x.efficiency(100 + i, 0, 1), true);
        }
        due("no room for row 21", x.efficiency(99, 0, 1), false);
        due("no room for row 21", x.efficiency(120, 0, 1), false);
    }

    private static void efficiencyMoreThanTwenty() {
        sentence("Promise 12: False, refused, when there would be more than 20");
        dueRefusedAmongTwenty(1);
        dueRefusedAmongTwenty(99);
        dueRefusedAmongTwenty(101);
        dueRefusedAmongTwenty(1050);
        dueRefusedAmongTwenty(1999);
        dueRefusedAmongTwenty(2001);
        dueRefusedAmongTwenty(1_000_000);
        for (int row = 1; row <= 20; row++) {
            FatBalance x = twentyRows();
            due("row " + row + " gives way", x.efficiency(100 * row, 50, 10_000), true);
            due("what it leaves", x.separate(x.lot(100 * row, 50, 10_000), 1, 1), NONE);
            due("more than that", x.separate(x.lot(100 * row, 51, 10_000), 1, 1), 2);
            due("a row more", x.efficiency(5, 0, 1), false);
        }
        FatBalance x = new FatBalance();
        for (int i = 0; i < 19; i++) {
            due("row " + i, x.efficiency(1_000_000 - i, 0, 1), true);
        }
        due("refused ones are not counted", x.efficiency(1_000_001, 0, 1), false);
        due("the twentieth", x.efficiency(1, 0, 1), true);
        due("one more", x.efficiency(2, 0, 1), false);
    }

    private static FatBalance twentyRows() {
        FatBalance x = new FatBalance();
        for (int row = 1; row <= 20; row++) {
            due("row " + row, x.efficiency(100 * row, row, 10_000), true);
        }
        return x;
    }

    private static void dueRefusedAmongTwenty(long at) {
        ToLongFunction<FatBalance> row = x -> bit(x.efficiency(at, 9000, 10_000));
        dueRefused("a row more at " + at, BoundaryLotsTest::withTwentyRowsAndLots, row, FALSE);
    }

    private static FatBalance withTwentyRowsAndLots() {
        FatBalance x = twentyRows();
        for (long k : l(1, 99, 101, 1050, 1999, 2001, 1_000_000)) {
            x.lot(k, 8000, 10_000);
        }
        return x;
    }

    private static void everyBelow() {
        for (int below = 1; below <= 10_000; below++) {
            for (long above : l(-1, 0, 1, below / 2, below - 1, below, below + 1)) {
                boolean isTaken = above >= 0 && above <= below && above * 10_000 % below == 0;
                dueEverywhere(above, below, isTaken, isTaken ? above * 10_000 / below : NONE);
            }
        }
    }

    private static void dueEverywhere(long above, long below, boolean isTaken, long parts) {
        String of = above + " / " + below;
        FatBalance x = new FatBalance();
        sentence("Promise 2: fatBelow is not 1 .. 10,000, or fatAbove / fatBelow is not 0 to 1 in whole parts of 10,000");
        due("lot of " + of, x.lot(250, above, below), isTaken ? 0 : NONE);
        due("pay of it", x.pay(0), isTaken ? parts : NONE);
        int milk = x.lot(1000, 1, 10_000);
        int water = x.lot(1000, 0, 1);
        sentence("Promise 3: below is not 1 .. 10,000, it is not 0 to 1 in whole parts of 10,000");
        due("solids of " + of, x.solids(water, above, below), isTaken);
        due("pay of it", x.pay(water), isTaken ? 3 * parts : 0);
        x.solids(water, 0, 1);
        sentence("Promise 6: below is not 1 .. 10,000, or one is not 0 to 1 in whole parts of 10,000");
        x.choose(water);
        int due = !isTaken ? NONE : parts == 0 ? 0 : 1;
        due("standard of fat " + of, x.standard(above, 0, below), due);
        due("standard of solids " + of, x.standard(0, above, below), due);
        sentence("Promise 4: fatBelow is not 1 .. 10,000, the fat is not 0 to 1 in whole parts of 10,000");
        due("separate into " + of, x.separate(milk, above, below), parts > 1 ? milk + 2 : NONE);
        sentence("Promise 12: below not 1 .. 10,000, above / below not 0 to 1 in whole parts of 10,000");
        due("row of " + of, x.efficiency(1, above, below), isTaken);
    }

    private static void upToTheLastCall() {
        sentence("An object is used for at most 512 calls");
        FatBalance x = new FatBalance();
        for (int call = 1; call <= 60; call++) {
            due("call " + call, x.lot(100, 1, 2), call - 1);
        }
        for (int call = 61; call <= 511; call++) {
            due("call " + call, x.lot(100, 1, 2), FULL);
        }
        due("call 512", x.pay(59), 2000);
        FatBalance y = new FatBalance();
        for (int call = 1; call <= 510; call++) {
            due("call " + call, y.lot(0, 1, 2), NONE);
        }
        due("call 511", y.lot(100, 1, 2), 0);
        due("call 512", y.separate(0, 1, 1), 1);
    }
}
