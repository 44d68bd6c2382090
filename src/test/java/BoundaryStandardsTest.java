/** The sentences of promises 5, 6, 7 and 13 that name a boundary, each at the boundary and on both sides of it. */
public final class BoundaryStandardsTest extends Answers {
    private static final int MET = 0;
    private static final int IMPOSSIBLE = 1;

    public static void main(String[] args) {
        chooseNoSuchLot();
        chooseASeparatedLot();
        chooseTwice();
        chooseAFifth();
        standardMetOrImpossible();
        standardOfNothing();
        standardRefusedFractions();
        standardBeyondAllMilk();
        metBeforeIsNoMoreWhenMet();
        metBeforeIsNoMoreWhenImpossible();
        metBeforeIsNoMoreWhenRefused();
        refusedStandardChangesNothingElse();
        shareIsReduced();
        shareOfALotThatHasNone();
        shareIsThatOfTheLastStandard();
        shareWhenNoneWasMet();
        shareNoSuchLot();
        shareOtherPart();
        clearingNothing();
        clearingFour();
        clearingLeavesTheRest();
        end();
    }

    private static void dueRefusedChoice(int lot) {
        dueRefused("choose(" + lot + ")", x -> bit(x.choose(lot)), FALSE);
    }

    private static void chooseNoSuchLot() {
        sentence("Promise 5: False, refused, when there is no such lot");
        dueRefusedChoice(-1);
        dueRefusedChoice(7);
        dueRefusedChoice(8);
        dueRefusedChoice(60);
        for (int far : FAR_INTS) {
            dueRefusedChoice(far);
        }
        due("the last lot", busy().choose(6), true);
        FatBalance one = withLots(l(1, 0, 0));
        due("lot 1 of one", one.choose(1), false);
        due("lot 0 of one", one.choose(0), true);
        FatBalance full = withAlike(60);
        due("lot 60 of sixty", full.choose(60), false);
        due("lot 59 of sixty", full.choose(59), true);
        due("lot 0 of sixty", full.choose(0), true);
    }

    private static void chooseASeparatedLot() {
        sentence("Promise 5: False, refused, when it was separated");
        dueRefusedChoice(1);
        FatBalance x = withLots(l(100, 2000, 0));
        due("a refused separation", x.separate(0, 2, 10), NONE);
        due("it is not separated", x.choose(0), true);
        due("separated", x.separate(0, 8, 10), 1);
        due("it is separated", x.choose(0), false);
        due("cream", x.choose(1), true);
        due("skim", x.choose(2), true);
        x.clearChosen();
        due("still separated", x.choose(0), false);
    }

    private static void chooseTwice() {
        sentence("Promise 5: False, refused, when it is chosen already");
        dueRefusedChoice(0);
        dueRefusedChoice(4);
        dueRefusedChoice(5);
        for (int lot = 0; lot < 4; lot++) {
            FatBalance x = withChosen(l(1, 100, 0), l(1, 100, 0), l(1, 100, 0));
            x.lot(1, 1, 100);
            due("choose " + lot + " of the three", x.choose(lot), lot == 3);
            due("again", x.choose(lot), false);
            due("the order stays", x.standard(1, 0, 100), MET);
            dueShare("the first", x, 0, 1, 1);
            due("refused ones are not counted", x.choose(3), lot != 3);
        }
    }

    private static void chooseAFifth() {
        sentence("Promise 5: False, refused, when four are");
        FatBalance x = withAlike(60);
        due("first", x.choose(59), true);
        due("second", x.choose(30), true);
        due("third", x.choose(0), true);
        due("fourth", x.choose(1), true);
        for (int lot = 0; lot < 60; lot++) {
            due("fifth, " + lot, x.choose(lot), false);
        }
        due("the order stays", x.standard(1, 0, 2), MET);
        dueShare("the first", x, 59, 1, 1);
        dueShare("the second", x, 30, 0, 1);
        x.clearChosen();
        due("first again", x.choose(2), true);
        FatBalance four = withChosen(l(9, 100, 0), l(9, 200, 0), l(9, 300, 0), l(9, 400, 0));
        due("a lot of another fat", four.lot(9, 5, 100), 4);
        due("a fifth", four.choose(4), false);
        due("it is not in the standard", four.standard(5, 0, 100), IMPOSSIBLE);
    }

    private static void standardMetOrImpossible() {
        sentence("Promise 6: 0 when it is met, 1 when that is impossible");
        FatBalance x = withChosen(l(1, 100, 0), l(1, 300, 0), l(1, 100, 200), l(1, 300, 200));
        for (int fat = 99; fat <= 301; fat += fat == 99 || fat == 299 || fat == 300 ? 1 : 199 / 2) {
            for (int solid : new int[] {0, 1, 100, 199, 200, 201, 202}) {
                boolean isMet = fat >= 100 && fat <= 300 && solid <= 200;
                due("(" + fat + ", " + solid + ")", x.standard(fat, solid, 10_000), isMet ? MET : IMPOSSIBLE);
                due("share of the first", x.share(0, 0) != NONE, isMet);
            }
        }
        FatBalance all = withChosen(l(1, 0, 0), l(1, 10_000, 0), l(1, 0, 10_000));
        for (long[] parts : PARTS) {
            due("fat " + parts[0] + " / " + parts[1], all.standard(parts[0], 0, parts[1]), MET);
            dueReduced("fat", all, 1, parts[2]);
            due("solids " + parts[0] + " / " + parts[1], all.standard(0, parts[0], parts[1]), MET);
            dueReduced("solids", all, 2, parts[2]);
        }
    }

    private static void dueReduced(String what, FatBalance x, int lot, long parts) {
        long divisor = java.math.BigInteger.valueOf(parts).gcd(java.math.BigInteger.valueOf(10_000)).longValue();
        dueShare(what, x, lot, parts / divisor, 10_000 / divisor);
    }

    private static void standardOfNothing() {
        sentence("Promise 6: NONE, refused, when nothing is chosen");
        due("a new object", new FatBalance().standard(0, 0, 1), NONE);
        FatBalance x = withLots(l(10, 100, 0));
        due("a lot, but none is chosen", x.standard(1, 0, 100), NONE);
        due("choose", x.choose(0), true);
        due("one is chosen", x.standard(1, 0, 100), MET);
        due("separate", x.separate(0, 1, 2), 1);
        due("the only one was separated", x.standard(1, 0, 100), NONE);
        due("choose", x.choose(2), true);
        due("one is chosen", x.standard(0, 0, 100), MET);
        x.clearChosen();
        due("cleared", x.standard(0, 0, 100), NONE);
    }

    private static void dueNoStandard(FatBalance x, long fatAbove, long solidsAbove, long below) {
        String call = "standard(" + fatAbove + ", " + solidsAbove + ", " + below + ")";
        due(call, x.standard(fatAbove, solidsAbove, below), NONE);
        due("share after " + call, x.share(0, 0), NONE);
    }

    private static void standardRefusedFractions() {
        sentence("Promise 6: NONE, refused, when below is not 1 .. 10,000, or one is not 0 to 1 in whole parts of 10,000");
        FatBalance x = withChosen(l(1, 0, 0));
        for (long[] none : NO_PARTS) {
            dueNoStandard(x, none[0], 0, none[1]);
            dueNoStandard(x, 0, none[0], none[1]);
            dueNoStandard(x, none[0], none[0], none[1]);
        }
        FatBalance y = withChosen(l(1, 0, 0));
        for (long far : FAR) {
            dueNoStandard(y, far, 0, 1);
            dueNoStandard(y, 0, far, 1);
            dueNoStandard(y, far, 0, 10_000);
            dueNoStandard(y, 0, far, 10_000);
            dueNoStandard(y, 0, 0, far);
            dueNoStandard(y, 1, 1, far);
            dueNoStandard(y, far, far, far);
        }
        FatBalance z = withChosen(l(1, 0, 0));
        due("no part of 1", z.standard(0, 0, 1), MET);
        due("no part of 9999", z.standard(0, 0, 9999), MET);
        due("no part of 10,000", z.standard(0, 0, 10_000), MET);
        due("no part of 10,001", z.standard(0, 0, 10_001), NONE);
        due("no part of 0", z.standard(0, 0, 0), NONE);
        due("one of 10,000", z.standard(1, 0, 10_000), IMPOSSIBLE);
        due("all of 9999", z.standard(9999, 0, 9999), IMPOSSIBLE);
        due("all but one of 9999", z.standard(9998, 0, 9999), NONE);
    }

    private static void standardBeyondAllMilk() {
        sentence("Promise 6: one is not 0 to 1: each alone, so that both together may be more than 1, and impossible");
        FatBalance x = withChosen(l(1, 0, 10_000), l(1, 10_000, 0));
        due("all together", x.standard(1, 1, 2), MET);
        due("a part more fat", x.standard(5001, 5000, 10_000), IMPOSSIBLE);
        due("a part more solids", x.standard(5000, 5001, 10_000), IMPOSSIBLE);
        due("all of both", x.standard(1, 1, 1), IMPOSSIBLE);
        due("all of both", x.standard(10_000, 10_000, 10_000), IMPOSSIBLE);
        due("a part more than all", x.standard(10_001, 10_000, 10_000), NONE);
        due("a part more than all", x.standard(10_000, 10_001, 10_000), NONE);
    }

    private static void metBeforeIsNoMoreWhenMet() {
        sentence("Promise 6: What was met before is no more: when another is met");
        FatBalance x = withChosen(l(1, 0, 0), l(1, 100, 0), l(1, 0, 100));
        due("one", x.standard(50, 0, 10_000), MET);
        dueShare("one", x, 1, 1, 2);
        due("another", x.standard(0, 25, 10_000), MET);
        dueShare("another", x, 0, 3, 4);
        dueShare("another", x, 1, 0, 1);
        dueShare("another", x, 2, 1, 4);
        x.clearChosen();
        due("choose", x.choose(2), true);
        due("from other lots", x.standard(0, 100, 10_000), MET);
        dueShare("from other lots", x, 0, 0, 1);
        dueShare("from other lots", x, 1, 0, 1);
        dueShare("from other lots", x, 2, 1, 1);
    }

    private static void metBeforeIsNoMoreWhenImpossible() {
        sentence("Promise 6: What was met before is no more: when it is impossible");
        FatBalance x = withChosen(l(1, 0, 0), l(1, 100, 0));
        due("one", x.standard(50, 0, 10_000), MET);
        due("impossible", x.standard(101, 0, 10_000), IMPOSSIBLE);
        dueNothingMet("after it", x, 2);
        due("the first again", x.standard(50, 0, 10_000), MET);
        dueShare("again", x, 0, 1, 2);
        due("impossible", x.standard(50, 1, 10_000), IMPOSSIBLE);
        dueNothingMet("after it", x, 2);
    }

    private static void metBeforeIsNoMoreWhenRefused() {
        sentence("Promise 6: What was met before is no more: when it is refused");
        long[][] refused = {l(0, 0, 0), l(0, 0, 10_001), l(-1, 0, 1), l(2, 0, 1), l(0, -1, 1), l(0, 2, 1), l(1, 0, 3), l(0, 1, 3),
            l(Long.MIN_VALUE, 0, 1), l(0, Long.MAX_VALUE, 1), l(0, 0, Long.MIN_VALUE)};
        for (long[] r : refused) {
            FatBalance x = withChosen(l(1, 0, 0), l(1, 100, 0));
            due("one", x.standard(50, 0, 10_000), MET);
            dueShare("one", x, 0, 1, 2);
            dueNoStandard(x, r[0], r[1], r[2]);
            dueNothingMet("after it", x, 2);
            due("what is chosen stays", x.standard(50, 0, 10_000), MET);
            dueShare("what is chosen stays", x, 1, 1, 2);
        }
        FatBalance x = withChosen(l(1, 0, 0));
        due("one", x.standard(0, 0, 1), MET);
        x.clearChosen();
        due("nothing is chosen", x.standard(0, 0, 1), NONE);
        dueNothingMet("after it", x, 1);
    }

    private static void refusedStandardChangesNothingElse() {
        sentence("Promise 6: NONE, refused: but for what was met nothing is changed");
        long[][] calls = {l(1, 1, 3), l(0, 0, 0), l(0, 0, 10_001), l(Long.MAX_VALUE, 0, 1), l(0, Long.MIN_VALUE, 1), l(1, 1, 1)};
        for (long[] call : calls) {
            FatBalance got = busy();
            got.standard(call[0], call[1], call[2]);
            FatBalance want = busy();
            want.standard(0, 1, 1);
            dueAlike("standard(" + call[0] + ", " + call[1] + ", " + call[2] + ")", got, want);
        }
    }

    private static void shareIsReduced() {
        sentence("Promise 7: as a reduced fraction: above (part 0), below (part 1)");
        FatBalance x = withChosen(l(1, 0, 0), l(1, 12, 0));
        long[][] first = {l(1, 1), l(11, 12), l(5, 6), l(3, 4), l(2, 3), l(7, 12), l(1, 2), l(5, 12), l(1, 3), l(1, 4), l(1, 6),
            l(1, 12), l(0, 1)};
        for (int fat = 0; fat <= 12; fat++) {
            due("standard", x.standard(fat, 0, 10_000), MET);
            dueShare(fat + " of 12", x, 0, first[fat][0], first[fat][1]);
            dueShare(fat + " of 12", x, 1, first[12 - fat][0], first[12 - fat][1]);
        }
        FatBalance wide = withChosen(l(1, 0, 9999), l(1, 9999, 1), l(1, 1, 3));
        due("the greatest below", wide.standard(3333, 3334, 10_000), MET);
        dueShare("the greatest below", wide, 0, 16_655_001, 49_970_003);
        dueShare("the greatest below", wide, 1, 33_310_003, 99_940_006);
        dueShare("the greatest below", wide, 2, 33_320_001, 99_940_006);
    }

    private static void shareOfALotThatHasNone() {
        sentence("Promise 7: 0 and 1 when it has none");
        FatBalance x = withLots(l(100, 0, 0), l(100, 100, 0), l(100, 200, 0), l(100, 300, 0));
        x.choose(1);
        x.choose(2);
        due("standard", x.standard(100, 0, 10_000), MET);
        dueShare("all", x, 1, 1, 1);
        dueShare("chosen, but without a share", x, 2, 0, 1);
        dueShare("not chosen", x, 0, 0, 1);
        due("a later lot", x.lot(1, 1, 100), 4);
        dueShare("a later lot", x, 4, 0, 1);
        due("chosen later", x.choose(3), true);
        dueShare("chosen later", x, 3, 0, 1);
        due("separated later", x.separate(2, 1, 2), 5);
        dueShare("separated later", x, 2, 0, 1);
        dueShare("cream", x, 5, 0, 1);
        dueShare("skim", x, 6, 0, 1);
        dueShare("none such", x, 7, NONE, NONE);
    }

    private static void shareIsThatOfTheLastStandard() {
        sentence("Promise 7: in the standard that was met by the last standard()");
        FatBalance x = withChosen(l(100, 100, 0), l(100, 300, 0));
        x.lot(100, 2, 100);
        due("standard", x.standard(150, 0, 10_000), MET);
        due("another lot is chosen", x.choose(2), true);
        dueShare("as it was met", x, 0, 3, 4);
        due("other solids", x.solids(0, 1, 2), true);
        dueShare("as it was met", x, 0, 3, 4);
        due("separated", x.separate(1, 1, 2), 3);
        dueShare("as it was met", x, 0, 3, 4);
        dueShare("as it was met, separated", x, 1, 1, 4);
        x.clearChosen();
        dueShare("as it was met", x, 0, 3, 4);
        due("now nothing is chosen", x.standard(150, 0, 10_000), NONE);
        dueNothingMet("after it", x, 5);
    }

    private static void shareWhenNoneWasMet() {
        sentence("Promise 7: NONE when none was met");
        FatBalance x = withLots(l(1, 0, 0), l(1, 100, 0));
        dueNothingMet("no standard()", x, 2);
        due("nothing chosen", x.standard(0, 0, 1), NONE);
        dueNothingMet("refused", x, 2);
        due("choose", x.choose(0), true);
        dueNothingMet("only chosen", x, 2);
        due("impossible", x.standard(1, 0, 1), IMPOSSIBLE);
        dueNothingMet("impossible", x, 2);
        due("met", x.standard(0, 0, 1), MET);
        dueShare("met", x, 0, 1, 1);
        dueShare("met", x, 1, 0, 1);
    }

    private static void shareNoSuchLot() {
        sentence("Promise 7: NONE when there is no such lot");
        FatBalance x = busy();
        dueShare("the first", x, 0, 1, 4);
        dueShare("before the first", x, -1, NONE, NONE);
        dueShare("the last", x, 6, 0, 1);
        dueShare("behind the last", x, 7, NONE, NONE);
        dueShare("sixty", x, 60, NONE, NONE);
        for (int far : FAR_INTS) {
            dueShare("far", x, far, NONE, NONE);
        }
        FatBalance full = withAlike(60);
        due("choose", full.choose(59), true);
        due("standard", full.standard(1, 0, 2), MET);
        dueShare("the last of sixty", full, 59, 1, 1);
        dueShare("behind sixty", full, 60, NONE, NONE);
    }

    private static void shareOtherPart() {
        sentence("Promise 7: NONE for another part");
        FatBalance x = busy();
        for (int lot : new int[] {0, 1, 4, 6}) {
            due("part -1 of " + lot, x.share(lot, -1), NONE);
            due("part 2 of " + lot, x.share(lot, 2), NONE);
            due("part 3 of " + lot, x.share(lot, 3), NONE);
            for (int far : FAR_INTS) {
                due("part " + far + " of " + lot, x.share(lot, far), NONE);
            }
        }
        dueShare("both parts", x, 4, 3, 4);
        dueAlike("reading shares changes nothing", x, busy());
    }

    private static void clearingNothing() {
        sentence("Promise 13: Nothing is chosen: when nothing was");
        FatBalance x = new FatBalance();
        x.clearChosen();
        x.clearChosen();
        due("standard", x.standard(0, 0, 1), NONE);
        due("lot", x.lot(1, 0, 1), 0);
        x.clearChosen();
        due("standard", x.standard(0, 0, 1), NONE);
        due("choose", x.choose(0), true);
        due("standard", x.standard(0, 0, 1), MET);
    }

    private static void clearingFour() {
        sentence("Promise 13: Nothing is chosen: when some were");
        for (int count = 1; count <= 4; count++) {
            FatBalance x = withLots(l(1, 100, 0), l(1, 100, 0), l(1, 100, 0), l(1, 100, 0), l(1, 100, 0));
            for (int lot = 0; lot < count; lot++) {
                due("choose", x.choose(lot), true);
            }
            x.clearChosen();
            due("standard of nothing", x.standard(1, 0, 100), NONE);
            for (int lot = 4; lot > 0; lot--) {
                due("choose again", x.choose(lot), true);
            }
            due("a fifth", x.choose(0), false);
            due("standard", x.standard(1, 0, 100), MET);
            dueShare("the new first", x, 4, 1, 1);
            dueShare("the old first", x, 0, 0, 1);
        }
    }

    private static void clearingLeavesTheRest() {
        sentence("Promise 13: Nothing is chosen: all else stays");
        FatBalance got = busy();
        got.clearChosen();
        dueShare("what was met", got, 4, 3, 4);
        dueShare("what was met", got, 0, 1, 4);
        due("choose again", got.choose(4), true);
        due("choose again", got.choose(0), true);
        due("choose again", got.choose(5), true);
        dueAlike("after clearing and choosing again", got, busy());
    }
}
