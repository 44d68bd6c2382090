import java.util.List;
import java.util.function.Consumer;

/** What the calls of one promise show of what the calls of another did, and what they must not show. */
public final class AcrossPromisesTest extends Answers {
    private static final int MET = 0;
    private static final int IMPOSSIBLE = 1;
    private static final int CHEESE = 0;
    private static final int BUTTER = 1;
    private static final int POWDER = 2;
    private static final int GRAMS = 2;

    public static void main(String[] args) {
        lotsSeenByShare();
        lotsSeenByStandard();
        lotsSeenBySeparate();
        lotsSeenByPay();
        solidsSeenByYieldsAndPay();
        solidsSeenBySeparate();
        solidsSeenByStandard();
        separateSeenByOtherLots();
        separateSeenByChoose();
        separateSeenByStandard();
        separateSeenByShare();
        separateSeenBySeparate();
        separateSeenByLoss();
        separateSeenByYieldsAndPay();
        creamAndSkimMakeTheLotAgain();
        choosingSeenByTheRest();
        standardSeenByTheRest();
        penaltySeenByPay();
        penaltySeenByNothingElse();
        efficiencySeenBySeparate();
        efficiencySeenByNothingElse();
        clearingSeenByTheRest();
        readingSeenByNothing();
        orderOfCallsThatDoNotMeet();
        twoObjects();
        end();
    }

    private static void lotsSeenByShare() {
        sentence("2 seen by 7: a lot that is made after a standard was met has no share in it");
        FatBalance x = withChosen(l(10, 100, 200));
        due("standard", x.standard(100, 200, 10_000), MET);
        dueShare("before the lot is made", x, 1, NONE, NONE);
        due("a lot like the chosen one", x.lot(10, 1, 100), 1);
        due("its solids", x.solids(1, 2, 100), true);
        dueShare("a lot like the chosen one", x, 1, 0, 1);
        dueShare("the chosen one", x, 0, 1, 1);
        due("refused", x.lot(0, 1, 100), NONE);
        dueShare("refused", x, 2, NONE, NONE);
    }

    private static void lotsSeenByStandard() {
        sentence("2 seen by 6: a lot is in a standard when it is chosen, not when it is made");
        FatBalance x = withChosen(l(10, 100, 0));
        due("a lot", x.lot(10, 3, 100), 1);
        due("not chosen", x.standard(200, 0, 10_000), IMPOSSIBLE);
        due("not chosen, its own", x.standard(300, 0, 10_000), IMPOSSIBLE);
        due("choose", x.choose(1), true);
        due("chosen", x.standard(200, 0, 10_000), MET);
        dueShare("chosen", x, 1, 1, 2);
    }

    private static void lotsSeenBySeparate() {
        sentence("2 seen by 4: cream and skim are numbered behind all lots that were made");
        FatBalance x = withLots(l(100, 2000, 0));
        due("another", x.lot(100, 2, 10), 1);
        due("separate the first", x.separate(0, 8, 10), 2);
        due("another", x.lot(100, 2, 10), 4);
        due("refused", x.lot(100, 1, 3), NONE);
        due("separate the second", x.separate(1, 8, 10), 5);
        due("separate what came between", x.separate(4, 8, 10), 7);
        due("another", x.lot(7, 0, 1), 9);
        for (int lot : new int[] {2, 5, 7}) {
            dueLot("cream", x, lot, 25, 8000, 0);
            dueLot("skim", x, lot + 1, 75, 0, 0);
        }
    }

    private static void lotsSeenByPay() {
        sentence("2 seen by 11: penalties and rows that were told before a lot is made hold for it");
        FatBalance x = new FatBalance();
        due("penalty", x.penalty(2001, 10), true);
        due("row", x.efficiency(100, 500, 10_000), true);
        due("lot", x.lot(100, 2, 10), 0);
        due("pay", x.pay(0), 800 - 10);
        due("separate", x.separate(0, 65, 100), 1);
        due("the skim has the row's fat", x.yieldOf(2, BUTTER, GRAMS), 4573);
    }

    private static void solidsSeenByYieldsAndPay() {
        sentence("3 seen by 8 and 11: solids count in cheese, powder and pay, not in butter, nor for a penalty");
        FatBalance x = withLots(l(1000, 400, 0), l(1000, 400, 0));
        due("penalty", x.penalty(401, 10), true);
        due("penalty", x.penalty(400, 10), true);
        due("pay without", x.pay(0), 1600 - 100);
        due("solids", x.solids(0, 9, 100), true);
        due("pay with", x.pay(0), 4300 - 100);
        due("cheese with", x.yieldOf(0, CHEESE, GRAMS), 181_148);
        due("butter with", x.yieldOf(0, BUTTER, GRAMS), 48_780);
        due("powder with", x.yieldOf(0, POWDER, GRAMS), 134_021);
        due("refused", x.solids(0, 97, 100), false);
        due("pay as before", x.pay(0), 4300 - 100);
        due("solids away", x.solids(0, 0, 1), true);
        for (int kind = CHEESE; kind <= POWDER; kind++) {
            for (int part = 0; part <= GRAMS; part++) {
                due("as the lot that never had any", x.yieldOf(0, kind, part), x.yieldOf(1, kind, part));
            }
        }
        due("pay as the lot that never had any", x.pay(0), x.pay(1));
    }

    private static void solidsSeenBySeparate() {
        sentence("3 seen by 4 and 9: cream and skim have the solids that were told last; kilograms and loss do not depend on them");
        long[] told = l(0, 1, 800, 8000);
        long[] ofCream = l(0, 0, 400, 4000);
        long[] ofSkim = l(0, 1, 1000, 10_000);
        for (int i = 0; i < told.length; i++) {
            FatBalance x = withLots(l(100, 2000, 7777));
            due("solids", x.solids(0, told[i], 10_000), true);
            due("refused solids", x.solids(0, 8001, 10_000), false);
            due("separate", x.separate(0, 6, 10), 1);
            dueLot("cream", x, 1, 33, 6000, ofCream[i]);
            dueLot("skim", x, 2, 66, 0, ofSkim[i]);
            due("loss", x.loss(0), 1);
            due("other solids of cream", x.solids(1, 1, 10), true);
            dueLot("the skim stays", x, 2, 66, 0, ofSkim[i]);
            dueLot("the lot stays", x, 0, 100, 2000, told[i]);
        }
    }

    private static void solidsSeenByStandard() {
        sentence("3 seen by 6: a standard is of the solids that the lots have then, not of those when they were chosen");
        FatBalance x = withChosen(l(10, 100, 0), l(10, 300, 0));
        due("without solids", x.standard(200, 0, 10_000), MET);
        due("solids of both", x.solids(0, 40, 10_000), true);
        due("solids of both", x.solids(1, 20, 10_000), true);
        sentence("3 seen by 7: what was met stays as it was met");
        dueShare("the first", x, 0, 1, 2);
        dueShare("the second", x, 1, 1, 2);
        sentence("3 seen by 6: a standard is of the solids that the lots have then");
        due("without solids", x.standard(200, 0, 10_000), IMPOSSIBLE);
        due("with them", x.standard(200, 30, 10_000), MET);
        due("another", x.standard(150, 35, 10_000), MET);
        dueShare("another", x, 0, 3, 4);
        due("refused solids", x.solids(0, 9901, 10_000), false);
        due("the same again", x.standard(150, 35, 10_000), MET);
        sentence("3 seen by 5: other solids do not change what is chosen");
        due("still chosen", x.choose(0), false);
        due("still chosen", x.choose(1), false);
    }

    private static void separateSeenByOtherLots() {
        sentence("4 seen by 8 and 11: all other lots stay as they were");
        long[][] lots = {l(10, 100, 1), l(20, 200, 2), l(30, 300, 3), l(40, 400, 4)};
        for (int gone = 0; gone < lots.length; gone++) {
            FatBalance x = withLots(lots);
            due("separate", x.separate(gone, 1, 2), 4);
            for (int lot = 0; lot < lots.length; lot++) {
                dueLot("lot " + lot + " after " + gone + " was separated", x, lot, lots[lot][0], lots[lot][1], lots[lot][2]);
                due("solids of lot " + lot, x.solids(lot, 5, 100), lot != gone);
            }
        }
    }

    private static void separateSeenByChoose() {
        sentence("4 seen by 5: cream and skim of a chosen lot are not chosen, and can be");
        FatBalance x = withChosen(l(100, 2000, 0), l(100, 2000, 0), l(100, 2000, 0), l(100, 2000, 0));
        due("separate", x.separate(1, 8, 10), 4);
        due("the lot itself", x.choose(1), false);
        due("skim", x.choose(5), true);
        due("cream is a fifth", x.choose(4), false);
        due("separate", x.separate(0, 8, 10), 6);
        due("cream", x.choose(4), true);
        due("cream again", x.choose(4), false);
        due("a fifth", x.choose(6), false);
        due("separate one that is not chosen", x.separate(6, 1, 1), 8);
        due("that makes no room", x.choose(7), false);
    }

    private static void separateSeenByStandard() {
        sentence("4 seen by 6: the chosen that are left keep their order, and what is chosen then comes behind them");
        long[] alike = l(100, 2000, 0);
        int[] order = {2, 0, 3, 1};
        for (int gone = 0; gone < 4; gone++) {
            FatBalance x = withLots(alike, alike, alike, alike);
            for (int lot : order) {
                due("choose", x.choose(lot), true);
            }
            due("separate", x.separate(order[gone], 8, 10), 4);
            due("a lot like them", x.lot(100, 2, 10), 6);
            due("choose it", x.choose(6), true);
            dueFirstInTurn(x, order, gone);
        }
    }

    /** Of lots that are alike the first chosen has all: separating one after the other shows their order. */
    private static void dueFirstInTurn(FatBalance x, int[] order, int gone) {
        int[] left = new int[4];
        int count = 0;
        for (int place = 0; place < 4; place++) {
            if (place != gone) {
                left[count++] = order[place];
            }
        }
        left[3] = 6;
        for (int lot : left) {
            due("standard", x.standard(2, 0, 10), MET);
            dueShare("the first that is left, without place " + gone, x, lot, 1, 1);
            due("separate it", x.separate(lot, 8, 10) > 0, true);
        }
        due("nothing is chosen any more", x.standard(2, 0, 10), NONE);
    }

    private static void separateSeenByShare() {
        sentence("4 seen by 7: the standard that was met keeps the share of a lot that is separated");
        FatBalance x = withChosen(l(100, 1000, 0), l(100, 4000, 0));
        due("standard", x.standard(2, 0, 10), MET);
        due("separate", x.separate(0, 1, 2), 2);
        dueShare("the separated one", x, 0, 2, 3);
        dueShare("the other", x, 1, 1, 3);
        dueShare("cream", x, 2, 0, 1);
        dueShare("skim", x, 3, 0, 1);
        due("the same from what is left", x.standard(2, 0, 10), IMPOSSIBLE);
        dueNothingMet("after it", x, 4);
        due("skim", x.choose(3), true);
        due("the same with skim", x.standard(2, 0, 10), MET);
        dueShare("the separated one", x, 0, 0, 1);
        dueShare("the other", x, 1, 1, 2);
        dueShare("skim", x, 3, 1, 2);
    }

    private static void separateSeenBySeparate() {
        sentence("4 seen by 4: cream and skim can be separated as other lots can, by their own kilograms");
        FatBalance x = withLots(l(1000, 2000, 0));
        due("row", x.efficiency(1000, 1000, 10_000), true);
        due("row", x.efficiency(500, 100, 10_000), true);
        due("separate", x.separate(0, 3, 10), 1);
        dueLot("cream", x, 1, 500, 3000, 0);
        dueLot("skim", x, 2, 500, 1000, 0);
        due("the skim, whose fat is above what its own kilograms leave", x.separate(2, 19, 100), 3);
        dueLot("cream of skim", x, 3, 250, 1900, 0);
        dueLot("skim of skim", x, 4, 250, 100, 0);
        due("the skim of skim, by the first row", x.separate(4, 1, 2), NONE);
        due("the cream", x.separate(1, 1, 1), 5);
        due("the cream once more", x.separate(1, 1, 1), NONE);
        due("the cream of all fat", x.separate(5, 1, 1), NONE);
    }

    private static void separateSeenByLoss() {
        sentence("4 seen by 9: losses are numbered as the separations that were not refused");
        FatBalance x = withLots(l(3, 2000, 0), l(4, 2000, 0), l(5, 2000, 0), l(8, 2000, 0));
        int[] order = {1, 2, 3, 0};
        long[] lost = {0, 1, 0, 1};
        for (int day = 0; day < 4; day++) {
            due("refused", x.separate(order[day], 2, 10), NONE);
            due("before", x.loss(day), NONE);
            due("separate", x.separate(order[day], 8, 10), 4 + 2 * day);
            due("refused", x.separate(order[day], 8, 10), NONE);
            for (int past = 0; past <= day; past++) {
                due("loss " + past + " after day " + day, x.loss(past), lost[past]);
            }
            due("behind", x.loss(day + 1), NONE);
        }
    }

    private static void separateSeenByYieldsAndPay() {
        sentence("4 seen by 8 and 11: a lot that was separated yields and is paid as it was");
        FatBalance x = withLots(l(1000, 400, 900));
        FatBalance kept = withLots(l(1000, 400, 900));
        due("separate", x.separate(0, 4, 10), 1);
        for (int kind = CHEESE; kind <= POWDER; kind++) {
            for (int part = 0; part <= GRAMS; part++) {
                due("kind " + kind + ", part " + part, x.yieldOf(0, kind, part), kept.yieldOf(0, kind, part));
            }
        }
        due("pay", x.pay(0), 4300);
        due("pay of cream", x.pay(1), 100 * (4 * 4000 + 3 * 562) / 1000);
        due("pay of skim", x.pay(2), 900 * 3 * 937 / 1000);
    }

    private static void creamAndSkimMakeTheLotAgain() {
        sentence("4 seen by 6 and 7: cream and skim that were not rounded make the lot again, by their kilograms");
        FatBalance x = withLots(l(300, 2000, 800));
        due("separate", x.separate(0, 6, 10), 1);
        dueLot("cream", x, 1, 100, 6000, 400);
        dueLot("skim", x, 2, 200, 0, 1000);
        due("loss", x.loss(0), 0);
        due("cream", x.choose(1), true);
        due("skim", x.choose(2), true);
        due("the lot", x.standard(2000, 800, 10_000), MET);
        dueShare("cream", x, 1, 1, 3);
        dueShare("skim", x, 2, 2, 3);
        dueShare("the lot itself", x, 0, 0, 1);
    }

    private static void choosingSeenByTheRest() {
        sentence("5 seen by the rest: a chosen lot is as it was, and can still be told solids, paid and separated");
        FatBalance x = withChosen(l(100, 2000, 800));
        dueLot("chosen", x, 0, 100, 2000, 800);
        dueNothingMet("chosen", x, 1);
        due("solids", x.solids(0, 4, 100), true);
        dueLot("with other solids", x, 0, 100, 2000, 400);
        due("separate", x.separate(0, 6, 10), 1);
        dueLot("cream", x, 1, 33, 6000, 200);
        sentence("5 seen by 7: choosing does not change what was met");
        FatBalance y = withLots(l(10, 100, 0), l(10, 100, 0));
        due("choose", y.choose(1), true);
        due("standard", y.standard(1, 0, 100), MET);
        due("choose", y.choose(0), true);
        dueShare("the first", y, 1, 1, 1);
        dueShare("the second", y, 0, 0, 1);
    }

    private static void standardSeenByTheRest() {
        sentence("6 seen by the rest: a standard takes no kilograms and leaves what is chosen");
        FatBalance x = withChosen(l(100, 1000, 10), l(200, 4000, 20));
        for (int i = 0; i < 3; i++) {
            due("met", x.standard(2500, 15, 10_000), MET);
            dueShare("met", x, 0, 1, 2);
            dueLot("the first", x, 0, 100, 1000, 10);
            dueLot("the second", x, 1, 200, 4000, 20);
            due("impossible", x.standard(2500, 16, 10_000), IMPOSSIBLE);
            due("refused", x.standard(1, 1, 3), NONE);
            due("still chosen", x.choose(0), false);
            due("still chosen", x.choose(1), false);
            due("no separation", x.loss(0), NONE);
            due("no lot", x.pay(2), NONE);
        }
        due("solids can still be told", x.solids(0, 0, 1), true);
        due("separate", x.separate(0, 1, 2), 2);
    }

    private static void penaltySeenByPay() {
        sentence("10 seen by 11: a penalty holds for all lots, whenever they were made, separated ones and cream and skim too");
        FatBalance x = withLots(l(100, 2000, 800), l(100, 3000, 0), l(100, 2000, 800));
        due("separate", x.separate(0, 6, 10), 3);
        long[] before = new long[6];
        for (int lot = 0; lot < 5; lot++) {
            before[lot] = x.pay(lot);
        }
        due("penalty", x.penalty(3000, 50), true);
        due("later lot", x.lot(100, 2, 10), 5);
        before[5] = 800;
        long[] less = l(50, 0, 50, 0, 33, 50);
        for (int lot = 0; lot < 6; lot++) {
            due("pay of " + lot, x.pay(lot), before[lot] - less[lot]);
        }
        due("refused", x.penalty(3000, 0), false);
        due("pay after a refused one", x.pay(0), before[0] - 50);
        due("a second", x.penalty(10_000, 1), true);
        for (int lot = 0; lot < 6; lot++) {
            due("pay of " + lot, x.pay(lot), before[lot] - less[lot] - 1);
        }
    }

    private static void penaltySeenByNothingElse() {
        sentence("10 seen by the rest: a penalty changes the pay alone");
        FatBalance got = busy();
        FatBalance want = busy();
        due("penalty", got.penalty(10_000, 10_000), true);
        for (int lot = 0; lot < 7; lot++) {
            for (int kind = CHEESE; kind <= POWDER; kind++) {
                due("yield", got.yieldOf(lot, kind, GRAMS), want.yieldOf(lot, kind, GRAMS));
            }
            dueShare("share", got, lot, want.share(lot, 0), want.share(lot, 1));
            due("solids", got.solids(lot, 0, 1), want.solids(lot, 0, 1));
            due("choose", got.choose(lot), want.choose(lot));
        }
        due("standard", got.standard(100, 0, 10_000), want.standard(100, 0, 10_000));
        due("separate", got.separate(0, 1, 2), want.separate(0, 1, 2));
        due("cream", got.yieldOf(7, BUTTER, 0), want.yieldOf(7, BUTTER, 0));
        due("loss", got.loss(0), want.loss(0));
        due("loss", got.loss(1), want.loss(1));
    }

    private static void efficiencySeenBySeparate() {
        sentence("12 seen by 4 and 9: a row counts for the separations behind it, not for those before it");
        FatBalance x = withLots(l(99, 2000, 0), l(99, 2000, 0), l(99, 2000, 0), l(99, 400, 0));
        due("without rows", x.separate(0, 8, 10), 4);
        due("row", x.efficiency(99, 1000, 10_000), true);
        due("with a row", x.separate(1, 8, 10), 6);
        due("the row gives way", x.efficiency(99, 400, 10_000), true);
        due("with the new row", x.separate(2, 8, 10), 8);
        due("as much fat as is left", x.separate(3, 8, 10), NONE);
        due("the row gives way", x.efficiency(99, 0, 1), true);
        due("now it can be separated", x.separate(3, 8, 10), 10);
        // 99 * 2000 / 8000 = 24.75, 99 * 1000 / 7000 = 14.1, 99 * 1600 / 7600 = 20.8, 99 * 400 / 8000 = 4.95
        dueLot("cream without rows", x, 4, 24, 8000, 0);
        dueLot("skim without rows", x, 5, 74, 0, 0);
        dueLot("cream with a row", x, 6, 14, 8000, 0);
        dueLot("skim with a row", x, 7, 84, 1000, 0);
        dueLot("cream with the new row", x, 8, 20, 8000, 0);
        dueLot("skim with the new row", x, 9, 78, 400, 0);
        dueLot("cream of little fat", x, 10, 4, 8000, 0);
        dueLot("skim of little fat", x, 11, 94, 0, 0);
        for (int day = 0; day < 4; day++) {
            due("loss " + day, x.loss(day), 1);
        }
    }

    private static void efficiencySeenByNothingElse() {
        sentence("12 seen by the rest: a row changes separations alone");
        FatBalance got = busy();
        FatBalance want = busy();
        due("row", got.efficiency(50, 1000, 10_000), true);
        due("row", got.efficiency(10, 1000, 10_000), true);
        for (int lot = 0; lot < 7; lot++) {
            due("yield", got.yieldOf(lot, POWDER, GRAMS), want.yieldOf(lot, POWDER, GRAMS));
            due("butter", got.yieldOf(lot, BUTTER, GRAMS), want.yieldOf(lot, BUTTER, GRAMS));
            due("pay", got.pay(lot), want.pay(lot));
            dueShare("share", got, lot, want.share(lot, 0), want.share(lot, 1));
            due("choose", got.choose(lot), want.choose(lot));
        }
        due("standard", got.standard(100, 225, 10_000), want.standard(100, 225, 10_000));
        due("loss", got.loss(0), want.loss(0));
        due("loss", got.loss(1), want.loss(1));
        due("lot", got.lot(10, 1, 2), want.lot(10, 1, 2));
    }

    private static void clearingSeenByTheRest() {
        sentence("13 seen by the rest: lots that were chosen are as they were, and what was met stays until the next standard");
        FatBalance x = withChosen(l(100, 1000, 10), l(200, 4000, 20));
        due("met", x.standard(2500, 15, 10_000), MET);
        x.clearChosen();
        dueLot("the first", x, 0, 100, 1000, 10);
        dueShare("the first", x, 0, 1, 2);
        dueShare("the second", x, 1, 1, 2);
        due("the second is the first now", x.choose(1), true);
        due("separate one that is not chosen any more", x.separate(0, 1, 2), 2);
        dueShare("the first", x, 0, 1, 2);
        due("standard", x.standard(4000, 20, 10_000), MET);
        dueShare("the first", x, 0, 0, 1);
        dueShare("the second", x, 1, 1, 1);
    }

    private static void readingSeenByNothing() {
        sentence("7, 8, 9, 11 seen by the rest: calls that only tell change nothing");
        FatBalance got = busy();
        for (int lot = -1; lot <= 7; lot++) {
            got.share(lot, 0);
            got.share(lot, 1);
            got.share(lot, 2);
            got.yieldOf(lot, lot, 0);
            got.yieldOf(lot, BUTTER, GRAMS);
            got.loss(lot);
            got.pay(lot);
        }
        dueAlike("after reading", got, busy());
    }

    private static void orderOfCallsThatDoNotMeet() {
        sentence("calls of which none touches what another does come to the same in every order");
        List<Consumer<FatBalance>> calls = List.of(
            x -> due("solids", x.solids(2, 9, 100), true),
            x -> due("penalty", x.penalty(5000, 3), true),
            x -> due("row", x.efficiency(700, 25, 10_000), true),
            x -> due("row that gives way", x.efficiency(10, 31, 10_000), true),
            x -> due("choose", x.choose(6), true),
            x -> due("lot", x.lot(12, 7, 100), 7));
        FatBalance want = busy();
        calls.forEach(call -> call.accept(want));
        List<Long> due = Probe.of(want);
        for (int order = 0; order < 720; order++) {
            FatBalance got = busy();
            inOrder(order, calls.size()).forEach(i -> calls.get(i).accept(got));
            due("order " + order + " is seen", Probe.of(got).equals(due), true);
        }
    }

    /** The order of that number among all orders of so many. */
    private static List<Integer> inOrder(int number, int count) {
        List<Integer> order = new java.util.ArrayList<>();
        int rest = number;
        for (int i = 0; i < count; i++) {
            order.add(rest % (i + 1), i);
            rest /= i + 1;
        }
        return order;
    }

    private static void twoObjects() {
        sentence("1 seen by the rest: what is done to one object is not seen in another");
        List<Long> alone = Probe.of(busy());
        FatBalance first = busy();
        FatBalance second = new FatBalance();
        due("a new object beside a busy one", second.pay(0), NONE);
        due("nothing is met in it", second.share(0, 0), NONE);
        for (int lot = 0; lot < 20; lot++) {
            due("lot of the second", second.lot(7 + lot, 2 + lot, 100), lot);
        }
        due("no rows in it", second.separate(0, 1, 1), 20);
        due("no penalties in it", second.pay(1), 8 * 4 * 300 / 1000);
        for (int i = 1; i <= 10; i++) {
            due("row of the second", second.efficiency(i, 9, 10_000), true);
            due("penalty of the second", second.penalty(10_000, 1000), true);
        }
        for (int lot = 4; lot > 0; lot--) {
            due("choose in the second", second.choose(lot), true);
        }
        due("standard of the second", second.standard(4, 0, 100), MET);
        due("separate in the second", second.separate(5, 1, 2), 22);
        due("the first beside the second", Probe.of(first).equals(alone), true);
        dueShare("the second beside the first", second, 4, 1, 3);
    }
}
