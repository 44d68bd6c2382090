/** Every promise of the document by hand: ordinary inputs, the edges it names, and wrong inputs. */
public final class PromiseTest extends Answers {
    public static void main(String[] args) {
        newObject();
        lotsAndTheirRanges();
        lotsUpToSixty();
        solidsOfLots();
        separating();
        separatingRefused();
        separatingUntilFull();
        choosing();
        standardsRefused();
        standardsMetAndImpossible();
        greatestSharesInOrderOfChoosing();
        sharesOutliveChanges();
        yields();
        losses();
        penalties();
        payments();
        rowsOfTheSeparator();
        rowsUpToTwenty();
        clearingTheChosen();
        end();
    }

    private static void newObject() {
        FatBalance x = new FatBalance();
        due("new: NONE", FatBalance.NONE, -1);
        due("new: FULL", FatBalance.FULL, -2);
        due("new: solids(0)", x.solids(0, 0, 1), false);
        due("new: separate(0)", x.separate(0, 1, 2), -1);
        due("new: choose(0)", x.choose(0), false);
        due("new: standard", x.standard(0, 0, 1), -1);
        due("new: share(0, 0)", x.share(0, 0), -1);
        due("new: yieldOf(0, 0, 0)", x.yieldOf(0, 0, 0), -1);
        due("new: loss(0)", x.loss(0), -1);
        due("new: pay(0)", x.pay(0), -1);
        due("new: first lot", x.lot(1000, 1, 100), 0);
        due("new: no penalties", x.pay(0), 400);
        due("new: no standard is met", x.share(0, 0), -1);
        due("new: nothing is chosen", x.standard(1, 0, 100), -1);
        due("new: still none is met", x.share(0, 0), -1);
        due("new: separating without rows", x.separate(0, 10, 100), 1);
        dueLot("new: cream", x, 1, 100, 1000, 0);
        dueLot("new: skim", x, 2, 900, 0, 0);
        FatBalance other = new FatBalance();
        due("two objects share nothing", other.lot(1, 1, 1), 0);
    }

    private static void lotsAndTheirRanges() {
        FatBalance x = new FatBalance();
        due("lot(1, 0, 1)", x.lot(1, 0, 1), 0);
        due("lot(1000000, 1, 1)", x.lot(1_000_000, 1, 1), 1);
        due("lot(7, 10000, 10000)", x.lot(7, 10_000, 10_000), 2);
        due("lot(7, 1, 10000)", x.lot(7, 1, 10_000), 3);
        due("lot(7, 3, 6)", x.lot(7, 3, 6), 4);
        due("lot(7, 21, 7000)", x.lot(7, 21, 7000), 5);
        dueLot("least lot", x, 0, 1, 0, 0);
        dueLot("greatest lot", x, 1, 1_000_000, 10_000, 0);
        dueLot("all fat", x, 2, 7, 10_000, 0);
        dueLot("one part", x, 3, 7, 1, 0);
        dueLot("not reduced", x, 4, 7, 5000, 0);
        dueLot("whole parts by a strange number", x, 5, 7, 30, 0);
        long[][] refused = {
            {0, 1, 2}, {-1, 1, 2}, {1_000_001, 1, 2}, {Long.MIN_VALUE, 1, 2}, {Long.MAX_VALUE, 1, 2}, {1L << 32 | 1, 1, 2},
            {1, 0, 0}, {1, 1, 0}, {1, 0, -1}, {1, -1, -1}, {1, -1, -2}, {1, 0, 10_001}, {1, 10_001, 10_001},
            {1, 0, Long.MIN_VALUE}, {1, 0, Long.MAX_VALUE}, {1, 1, (1L << 32) + 2},
            {1, 1, 3}, {1, 2, 3}, {1, 1, 7}, {1, 1, 9999}, {1, 2, 1}, {1, 10_001, 10_000}, {1, -1, 2},
            {1, Long.MAX_VALUE, 1}, {1, Long.MIN_VALUE, 1}, {1, 1L << 60, 16}, {1, 1L << 60, 10_000},
        };
        for (long[] r : refused) {
            due("lot(" + r[0] + ", " + r[1] + ", " + r[2] + ")", x.lot(r[0], r[1], r[2]), -1);
        }
        due("three thirds are whole", x.lot(1, 3, 3), 6);
        dueLot("three thirds", x, 6, 1, 10_000, 0);
    }

    private static void lotsUpToSixty() {
        FatBalance x = new FatBalance();
        for (int i = 0; i < 60; i++) {
            due("lot number " + i, x.lot(i + 1, i, 100), i);
        }
        due("lot number 60", x.lot(1, 0, 1), -2);
        due("a wrong lot when full", x.lot(0, 0, 1), -1);
        due("a wrong fat when full", x.lot(1, 1, 3), -1);
        dueLot("the last lot", x, 59, 60, 5900, 0);
        due("pay(60)", x.pay(60), -1);
    }

    private static void solidsOfLots() {
        FatBalance x = new FatBalance();
        x.lot(1000, 4, 10);
        dueLot("without solids", x, 0, 1000, 4000, 0);
        due("solids(0, 1, 10)", x.solids(0, 1, 10), true);
        dueLot("a tenth", x, 0, 1000, 4000, 1000);
        due("solids(0, 6000, 10000)", x.solids(0, 6000, 10_000), true);
        dueLot("just not too much", x, 0, 1000, 4000, 6000);
        long[][] refused = {
            {0, 6001, 10_000}, {0, 1, 1}, {0, 1, 3}, {0, 2, 1}, {0, -1, 10}, {0, 1, 0}, {0, 0, 0}, {0, 0, 10_001}, {0, -1, -2},
            {0, 0, -1}, {0, Long.MAX_VALUE, 10_000}, {0, Long.MIN_VALUE, 1}, {0, 0, Long.MAX_VALUE}, {0, 1L << 60, 16},
            {1, 0, 1}, {-1, 0, 1}, {60, 0, 1}, {Integer.MAX_VALUE, 0, 1}, {Integer.MIN_VALUE, 0, 1},
        };
        for (long[] r : refused) {
            due("solids(" + r[0] + ", " + r[1] + ", " + r[2] + ")", x.solids((int) r[0], r[1], r[2]), false);
        }
        dueLot("refused solids change nothing", x, 0, 1000, 4000, 6000);
        due("solids(0, 0, 1)", x.solids(0, 0, 1), true);
        dueLot("no solids again", x, 0, 1000, 4000, 0);
        due("separate(0, 1, 2)", x.separate(0, 1, 2), 1);
        due("solids of a separated lot", x.solids(0, 1, 10), false);
        due("solids of cream", x.solids(1, 1, 2), true);
        due("too many solids of cream", x.solids(1, 5001, 10_000), false);
        due("solids of skim", x.solids(2, 1, 1), true);
        dueLot("cream", x, 1, 800, 5000, 5000);
        dueLot("skim", x, 2, 200, 0, 10_000);
    }

    private static void separating() {
        FatBalance x = withLots(new long[] {1000, 400, 900}, new long[] {1, 400, 9600}, new long[] {10, 9999, 1});
        due("efficiency(1000, 20, 10000)", x.efficiency(1000, 20, 10_000), true);
        due("separate(0, 40, 100)", x.separate(0, 40, 100), 3);
        // 1000 * 380 / 3980 = 95.4, 1000 * 3600 / 3980 = 904.5; 900 * 6000 / 9600 = 562.5, 900 * 9980 / 9600 = 935.6
        dueLot("cream", x, 3, 95, 4000, 562);
        dueLot("skim", x, 4, 904, 20, 935);
        dueLot("separated, as it was", x, 0, 1000, 400, 900);
        due("loss(0)", x.loss(0), 1);
        due("one kilogram", x.separate(1, 1, 1), 5);
        // 380 / 9980 and 9600 / 9980 of one kilogram; all fat leaves no room for solids, 9600 * 9980 / 9600 = 9980
        dueLot("cream of none", x, 5, 0, 10_000, 0);
        dueLot("skim of none", x, 6, 0, 20, 9980);
        due("loss(1)", x.loss(1), 1);
        due("all but one part of fat", x.separate(2, 1, 1), 7);
        dueLot("its cream", x, 7, 9, 10_000, 0);
        dueLot("its skim", x, 8, 0, 20, 9980);
        due("cream can be separated again", x.separate(3, 1, 2), 9);
        due("yield of an empty lot, above", x.yieldOf(5, 0, 0), 0);
        due("yield of an empty lot, below", x.yieldOf(5, 0, 1), 1);
        due("yield of an empty lot, grams", x.yieldOf(5, 0, 2), 0);
        due("an empty lot can be chosen", x.choose(5), true);
        due("an empty lot can meet a standard", x.standard(1, 0, 1), 0);
        dueShare("an empty lot", x, 5, 1, 1);
    }

    private static void separatingRefused() {
        FatBalance x = withLots(new long[] {1, 400, 900}, new long[] {50, 20, 0}, new long[] {50, 10_000, 0});
        x.efficiency(50, 20, 10_000);
        x.choose(0);
        long[][] refused = {
            {-1, 1, 2}, {3, 1, 2}, {Integer.MAX_VALUE, 1, 2}, {Integer.MIN_VALUE, 1, 2},
            {0, 1, 0}, {0, 1, -2}, {0, -1, -2}, {0, 5000, 10_001}, {0, 1, 3}, {0, 2, 1}, {0, -1, 1},
            {0, Long.MAX_VALUE, 1}, {0, Long.MIN_VALUE, 2}, {0, 1, Long.MAX_VALUE},
            {0, 399, 10_000}, {0, 400, 10_000}, {0, 0, 1}, {0, 20, 10_000},
            {1, 1, 2}, {1, 20, 10_000}, {2, 1, 1}, {2, 1, 2},
        };
        for (long[] r : refused) {
            due("separate(" + r[0] + ", " + r[1] + ", " + r[2] + ")", x.separate((int) r[0], r[1], r[2]), -1);
        }
        due("refused separations are none", x.loss(0), -1);
        due("a refused separation leaves the lot chosen", x.choose(0), false);
        due("one part more fat than the lot", x.separate(0, 401, 10_000), 3);
        due("separated already", x.separate(0, 1, 2), -1);
        dueLot("skim without kilograms", x, 4, 0, 20, 935);
        due("solids of an empty lot", x.solids(4, 0, 1), true);
        due("skim without kilograms, and not e < f", x.separate(4, 1, 2), -1);
        FatBalance empty = withLots(new long[] {1, 400, 900});
        due("cream without kilograms", empty.separate(0, 1, 2), 1);
        due("no kilograms, but e < f < c", empty.separate(1, 1, 1), -1);
        due("no rows at all lie below fat 0", withLots(new long[] {50, 0, 0}).separate(0, 1, 2), -1);
        due("row above the fat", highRow().separate(0, 1, 2), -1);
    }

    private static FatBalance highRow() {
        FatBalance x = withLots(new long[] {50, 400, 0});
        x.efficiency(1, 401, 10_000);
        return x;
    }

    private static void separatingUntilFull() {
        FatBalance x = new FatBalance();
        for (int i = 0; i < 58; i++) {
            x.lot(100, 1, 2);
        }
        due("room for two", x.separate(0, 1, 1), 58);
        due("no room", x.separate(1, 1, 1), -2);
        due("wrong with no room", x.separate(0, 1, 1), -1);
        due("wrong fat with no room", x.separate(1, 1, 2), -1);
        FatBalance y = new FatBalance();
        for (int i = 0; i < 59; i++) {
            y.lot(100, 1, 2);
        }
        y.choose(0);
        due("room for one", y.separate(0, 1, 1), -2);
        due("nothing is lost when full", y.loss(0), -1);
        due("still chosen when full", y.choose(0), false);
        due("still not separated when full", y.solids(0, 1, 10), true);
        due("the last lot", y.lot(1, 1, 2), 59);
        FatBalance z = new FatBalance();
        z.lot(1_000_000, 1, 2);
        for (int i = 0; i < 29; i++) {
            due("separation " + i, z.separate(i == 0 ? 0 : 2 * i - 1, 5001 + i, 10_000), 2 * i + 1);
        }
        due("with 59 lots", z.separate(57, 1, 1), -2);
        due("loss of the last", z.loss(28) >= 0, true);
        due("loss behind the last", z.loss(29), -1);
    }

    private static void choosing() {
        FatBalance x = withLots(new long[] {9, 100, 0}, new long[] {9, 100, 0}, new long[] {9, 100, 0},
            new long[] {9, 100, 0}, new long[] {9, 100, 0}, new long[] {9, 100, 0});
        due("choose(-1)", x.choose(-1), false);
        due("choose(6)", x.choose(6), false);
        due("choose(min)", x.choose(Integer.MIN_VALUE), false);
        due("choose(max)", x.choose(Integer.MAX_VALUE), false);
        due("choose(4)", x.choose(4), true);
        due("choose(4) again", x.choose(4), false);
        due("choose(0)", x.choose(0), true);
        due("choose(5)", x.choose(5), true);
        due("choose(1)", x.choose(1), true);
        due("a fifth", x.choose(2), false);
        due("separating a chosen lot", x.separate(0, 1, 2), 6);
        due("a separated lot", x.choose(0), false);
        due("room again", x.choose(2), true);
        due("a fifth again", x.choose(3), false);
        due("standard", x.standard(1, 0, 100), 0);
        dueShare("the first chosen has all", x, 4, 1, 1);
        dueShare("the last chosen has none", x, 2, 0, 1);
        due("separating the first chosen", x.separate(4, 1, 2), 8);
        due("standard", x.standard(1, 0, 100), 0);
        dueShare("the third chosen is the first now", x, 5, 1, 1);
        due("separating a lot that is not chosen", x.separate(3, 1, 2), 10);
        due("standard", x.standard(1, 0, 100), 0);
        dueShare("the order stays", x, 5, 1, 1);
    }

    private static void standardsRefused() {
        FatBalance x = withChosen(new long[] {10, 2500, 2500});
        long[][] refused = {
            {1, 1, 0}, {0, 0, 0}, {1, 1, -4}, {-1, -1, -4}, {0, 0, 10_001}, {2501, 2501, 10_004}, {1, 1, 3}, {1, 3, 6}, {3, 1, 6},
            {-1, 1, 4}, {1, -1, 4}, {5, 1, 4}, {1, 5, 4}, {Long.MAX_VALUE, 1, 4}, {1, Long.MIN_VALUE, 4},
            {1, 1, Long.MAX_VALUE}, {1L << 60, 1, 4}, {1, 1, (1L << 32) + 4},
        };
        for (long[] r : refused) {
            due("a standard before", x.standard(1, 1, 4), 0);
            due("it is met", x.share(0, 0), 1);
            due("standard(" + r[0] + ", " + r[1] + ", " + r[2] + ")", x.standard(r[0], r[1], r[2]), -1);
            due("no more after standard(" + r[0] + ", " + r[1] + ", " + r[2] + ")", x.share(0, 0), -1);
        }
        due("a standard", x.standard(2500, 2500, 10_000), 0);
        due("more than all", x.standard(1, 1, 1), 1);
        due("no more when impossible", x.share(0, 0), -1);
        due("a standard", x.standard(1, 1, 4), 0);
        x.clearChosen();
        due("nothing chosen", x.standard(1, 1, 4), -1);
        due("no more when nothing is chosen", x.share(0, 0), -1);
    }

    private static void standardsMetAndImpossible() {
        FatBalance one = withChosen(new long[] {10, 300, 700});
        due("one lot, its own", one.standard(3, 7, 100), 0);
        dueShare("one lot", one, 0, 1, 1);
        due("one lot, other fat", one.standard(301, 700, 10_000), 1);
        due("one lot, other solids", one.standard(300, 699, 10_000), 1);
        FatBalance two = withChosen(new long[] {10, 0, 900}, new long[] {10, 4000, 500});
        due("two lots, on their line", two.standard(1000, 800, 10_000), 0);
        dueShare("two lots", two, 0, 3, 4);
        dueShare("two lots", two, 1, 1, 4);
        due("two lots, beside their line", two.standard(1000, 801, 10_000), 1);
        due("two lots, behind one end", two.standard(8000, 100, 10_000), 1);
        due("two lots, at one end", two.standard(4000, 500, 10_000), 0);
        dueShare("two lots, at one end", two, 0, 0, 1);
        dueShare("two lots, at one end", two, 1, 1, 1);
        FatBalance upright = withChosen(new long[] {10, 100, 900}, new long[] {10, 100, 500});
        due("two lots of the same fat", upright.standard(100, 800, 10_000), 0);
        dueShare("the same fat", upright, 0, 3, 4);
        dueShare("the same fat", upright, 1, 1, 4);
        due("two lots of the same fat, other fat", upright.standard(101, 800, 10_000), 1);
        due("two lots of the same fat, before one end", upright.standard(100, 901, 10_000), 1);
        due("two lots of the same fat, behind one end", upright.standard(100, 499, 10_000), 1);
        FatBalance three = withChosen(new long[] {10, 0, 0}, new long[] {10, 7, 0}, new long[] {10, 0, 11});
        due("three lots, inside", three.standard(1, 2, 10_000), 0);
        dueShare("three lots", three, 0, 52, 77);
        dueShare("three lots", three, 1, 1, 7);
        dueShare("three lots", three, 2, 2, 11);
        due("three lots, outside", three.standard(4, 5, 10_000), 1);
        due("three lots, on a side", three.standard(3, 0, 10_000), 0);
        dueShare("three lots, on a side", three, 0, 4, 7);
        dueShare("three lots, on a side", three, 2, 0, 1);
        FatBalance wide = withChosen(new long[] {10, 0, 9999}, new long[] {10, 9999, 1}, new long[] {10, 1, 3});
        due("three lots far from one another", wide.standard(3333, 3334, 10_000), 0);
        dueShare("far from one another", wide, 0, 16655001, 49970003);
        dueShare("far from one another", wide, 1, 33310003, 99940006);
        dueShare("far from one another", wide, 2, 33320001, 99940006);
    }

    private static void greatestSharesInOrderOfChoosing() {
        FatBalance x = withLots(new long[] {10, 0, 0}, new long[] {10, 1000, 0}, new long[] {10, 1000, 1000},
            new long[] {10, 0, 1000});
        int[][] orders = {{0, 1, 2, 3}, {1, 0, 2, 3}, {2, 0, 1, 3}, {3, 2, 1, 0}, {0, 2, 1, 3}};
        for (int[] order : orders) {
            x.clearChosen();
            for (int lot : order) {
                due("choosing", x.choose(lot), true);
            }
            due("the middle of a square", x.standard(5, 5, 100), 0);
            for (int lot = 0; lot < 4; lot++) {
                boolean isAcross = lot == order[0] || lot == (order[0] + 2) % 4;
                dueShare("the middle, from " + order[0], x, lot, isAcross ? 1 : 0, isAcross ? 2 : 1);
            }
        }
        due("near the side", x.standard(5, 2, 100), 0);
        // chosen last as 0, 2, 1, 3: the first gets most with the rest on the side from 1 to 2
        dueShare("near the side", x, 0, 1, 2);
        dueShare("near the side", x, 2, 1, 5);
        dueShare("near the side", x, 1, 3, 10);
        dueShare("near the side", x, 3, 0, 1);
        FatBalance same = withChosen(new long[] {1, 50, 50}, new long[] {2, 50, 50}, new long[] {3, 50, 50},
            new long[] {4, 50, 50});
        due("four alike", same.standard(50, 50, 10_000), 0);
        dueShare("four alike", same, 0, 1, 1);
        dueShare("four alike", same, 1, 0, 1);
        due("four alike, another", same.standard(50, 51, 10_000), 1);
        FatBalance line = withChosen(new long[] {1, 100, 0}, new long[] {1, 200, 0}, new long[] {1, 0, 0},
            new long[] {1, 400, 0});
        due("four in line", line.standard(250, 0, 10_000), 0);
        dueShare("four in line", line, 0, 1, 2);
        dueShare("four in line", line, 1, 0, 1);
        dueShare("four in line", line, 3, 1, 2);
        FatBalance twice = withChosen(new long[] {1, 100, 0}, new long[] {1, 100, 0}, new long[] {1, 0, 0});
        due("two alike", twice.standard(25, 0, 10_000), 0);
        dueShare("two alike, the first", twice, 0, 1, 4);
        dueShare("two alike, the second", twice, 1, 0, 1);
    }

    private static void sharesOutliveChanges() {
        FatBalance x = withChosen(new long[] {100, 1000, 0}, new long[] {100, 4000, 0});
        due("standard", x.standard(2, 0, 10), 0);
        dueShare("met", x, 0, 2, 3);
        x.clearChosen();
        x.solids(0, 1, 10);
        due("separating", x.separate(1, 1, 2), 2);
        dueShare("after changes", x, 0, 2, 3);
        dueShare("after changes, separated", x, 1, 1, 3);
        dueShare("a lot that came later", x, 2, 0, 1);
        due("share(4, 0)", x.share(4, 0), -1);
        due("share(4, 1)", x.share(4, 1), -1);
        due("share(-1, 0)", x.share(-1, 0), -1);
        due("share(min, 0)", x.share(Integer.MIN_VALUE, 0), -1);
        due("share(max, 0)", x.share(Integer.MAX_VALUE, 0), -1);
        due("share(0, 2)", x.share(0, 2), -1);
        due("share(0, -1)", x.share(0, -1), -1);
        due("share(0, max)", x.share(0, Integer.MAX_VALUE), -1);
        due("share(0, min)", x.share(0, Integer.MIN_VALUE), -1);
        due("share(2, 2) without a share", x.share(2, 2), -1);
        dueShare("reading changes nothing", x, 0, 2, 3);
    }

    private static void yields() {
        FatBalance x = withLots(new long[] {1000, 400, 900}, new long[] {41, 1, 0}, new long[] {1_000_000, 10_000, 0},
            new long[] {1, 0, 0}, new long[] {1_000_000, 1, 9999}, new long[] {97, 5, 0}, new long[] {41, 1, 9});
        dueFraction("cheese", x, 0, 0, 1000L * (93 * 400 + 75 * 900) * 109, 63_000_000);
        // 104700 * 109 / 63 = 181147.6
        due("cheese in grams", x.yieldOf(0, 0, 2), 181_148);
        due("butter, above", x.yieldOf(0, 1, 0), 2000);
        due("butter, below", x.yieldOf(0, 1, 1), 41);
        due("butter in grams", x.yieldOf(0, 1, 2), 48_780);
        due("powder, above", x.yieldOf(0, 2, 0), 13_000);
        due("powder, below", x.yieldOf(0, 2, 1), 97);
        due("powder in grams", x.yieldOf(0, 2, 2), 134_021);
        due("5 grams of butter", x.yieldOf(1, 1, 2), 5);
        due("42.3 grams of powder", x.yieldOf(6, 2, 2), 42);
        dueFraction("cheese of the greatest", x, 2, 0, 1_000_000L * 930_000 * 109, 63_000_000);
        due("cheese of the greatest in grams", x.yieldOf(2, 0, 2), 1_609_047_619L);
        due("powder of all solids in grams", x.yieldOf(4, 2, 2), 1_030_927_835L);
        for (int kind = 0; kind < 3; kind++) {
            due("nothing, above, " + kind, x.yieldOf(3, kind, 0), 0);
            due("nothing, below, " + kind, x.yieldOf(3, kind, 1), 1);
            due("nothing in grams, " + kind, x.yieldOf(3, kind, 2), 0);
        }
        FatBalance small = withLots(new long[] {97, 0, 1}, new long[] {97, 0, 2}, new long[] {4100, 1, 0},
            new long[] {33, 41, 0}, new long[] {1, 20, 0}, new long[] {1, 21, 0}, new long[] {1, 37, 0});
        due("10 grams of powder", small.yieldOf(0, 2, 2), 10);
        due("20 grams of powder", small.yieldOf(1, 2, 2), 20);
        due("500 grams of butter", small.yieldOf(2, 1, 2), 500);
        due("165 grams of butter", small.yieldOf(3, 1, 2), 165);
        due("2.44 grams of butter", small.yieldOf(4, 1, 2), 2);
        due("2.56 grams of butter", small.yieldOf(5, 1, 2), 3);
        due("4.51 grams of butter", small.yieldOf(6, 1, 2), 5);
        exactHalves();
        int[][] refused = {{-1, 0, 0}, {7, 0, 0}, {Integer.MIN_VALUE, 0, 0}, {Integer.MAX_VALUE, 0, 0}, {0, -1, 0}, {0, 3, 0},
            {0, Integer.MAX_VALUE, 0}, {0, Integer.MIN_VALUE, 0}, {0, 0, -1}, {0, 0, 3}, {0, 0, Integer.MAX_VALUE},
            {0, 2, Integer.MIN_VALUE}};
        for (int[] r : refused) {
            due("yieldOf(" + r[0] + ", " + r[1] + ", " + r[2] + ")", x.yieldOf(r[0], r[1], r[2]), -1);
        }
        due("separating", x.separate(0, 1, 2), 7);
        due("butter of a separated lot", x.yieldOf(0, 1, 0), 2000);
    }

    /** Butter is 5 k f / 41 grams and powder 10 k (f + s) / 97: never a half; cheese is k (93 f + 75 s) 109 / 63,000. */
    private static void exactHalves() {
        FatBalance x = withLots(new long[] {500, 21, 0}, new long[] {1500, 7, 0}, new long[] {100, 0, 1050},
            new long[] {10_500, 1, 0}, new long[] {10_500, 3, 0}, new long[] {10_500, 3, 2});
        // 93 * 10,500 * 109 / 63,000 = 1689.5, and so are the first two
        due("cheese of 1689.5 grams", x.yieldOf(0, 0, 2), 1690);
        due("cheese of 1689.5 grams", x.yieldOf(1, 0, 2), 1690);
        due("cheese of 13625 grams", x.yieldOf(2, 0, 2), 13_625);
        due("cheese of 1689.5 grams", x.yieldOf(3, 0, 2), 1690);
        due("cheese of 5068.5 grams", x.yieldOf(4, 0, 2), 5069);
        due("cheese of 7793.5 grams", x.yieldOf(5, 0, 2), 7794);
    }

    private static void losses() {
        FatBalance x = withLots(new long[] {1000, 400, 900}, new long[] {100, 1000, 0}, new long[] {7, 3000, 0});
        due("loss(0) before", x.loss(0), -1);
        x.separate(1, 1, 2);
        x.separate(2, 7, 10);
        x.separate(0, 7, 10);
        due("20 and 80 of 100", x.loss(0), 0);
        due("3 and 4 of 7", x.loss(1), 0);
        // 1000 * 4 / 70 = 57.1, 1000 * 66 / 70 = 942.9
        due("57 and 942 of 1000", x.loss(2), 1);
        due("loss(3)", x.loss(3), -1);
        due("loss(-1)", x.loss(-1), -1);
        due("loss(min)", x.loss(Integer.MIN_VALUE), -1);
        due("loss(max)", x.loss(Integer.MAX_VALUE), -1);
        due("loss(60)", x.loss(60), -1);
    }

    private static void penalties() {
        FatBalance x = withLots(new long[] {1_000_000, 9999, 0});
        long[][] refused = {{0, 1}, {-1, 1}, {10_001, 1}, {1, 0}, {1, -1}, {1, 10_001}, {Long.MIN_VALUE, 1}, {Long.MAX_VALUE, 1},
            {1, Long.MIN_VALUE}, {1, Long.MAX_VALUE}, {(1L << 32) + 1, 1}, {1, (1L << 32) + 1}};
        for (long[] r : refused) {
            due("penalty(" + r[0] + ", " + r[1] + ")", x.penalty(r[0], r[1]), false);
        }
        due("penalty(9999, 10000)", x.penalty(9999, 10_000), true);
        due("not less fat than from", x.pay(0), 39_996_000);
        due("penalty(1, 1)", x.penalty(1, 1), true);
        for (int i = 2; i < 10; i++) {
            due("penalty " + i, x.penalty(10_000, i), true);
        }
        due("an eleventh", x.penalty(10_000, 1), false);
        due("all ten", x.pay(0), 39_996_000 - 44 * 10_000);
    }

    private static void payments() {
        FatBalance x = withLots(new long[] {1, 1, 0}, new long[] {333, 1, 0}, new long[] {333, 0, 1}, new long[] {1_000_000, 10_000, 0},
            new long[] {1_000_000, 1, 9999}, new long[] {150, 400, 900}, new long[] {100, 400, 900});
        due("4 thousandths", x.pay(0), 0);
        due("1.332 cents", x.pay(1), 1);
        due("0.999 cents", x.pay(2), 0);
        due("the greatest", x.pay(3), 40_000_000);
        due("all solids but one part", x.pay(4), 30_001_000);
        due("645 cents", x.pay(5), 645);
        due("penalty(401, 3)", x.penalty(401, 3), true);
        due("less 4.5, rounded up", x.pay(5), 640);
        due("less 3", x.pay(6), 427);
        due("penalty(400, 100)", x.penalty(400, 100), true);
        due("not for the same fat", x.pay(5), 640);
        due("penalty(402, 3)", x.penalty(402, 3), true);
        due("each is rounded up", x.pay(5), 635);
        due("not below 0", x.pay(0), 0);
        due("not below 0", x.pay(1), 0);
        due("penalty(10000, 10000)", x.penalty(10_000, 10_000), true);
        due("not below 0", x.pay(5), 0);
        due("not below 0", x.pay(4), 0);
        due("fat 10000 is never less", x.pay(3), 40_000_000);
        due("pay(-1)", x.pay(-1), -1);
        due("pay(7)", x.pay(7), -1);
        due("pay(min)", x.pay(Integer.MIN_VALUE), -1);
        due("pay(max)", x.pay(Integer.MAX_VALUE), -1);
        FatBalance y = withLots(new long[] {150, 400, 900});
        y.penalty(401, 3);
        y.separate(0, 1, 2);
        due("a separated lot, as it was", y.pay(0), 640);
        y.penalty(401, 3);
        due("a separated lot, with a later penalty", y.pay(0), 635);
    }

    /** The fat in the skim of a lot of so many kilograms, seen by what the skim yields. */
    private static void dueSkimFat(String what, FatBalance x, long kilograms, long fat) {
        int lot = x.lot(kilograms, 9000, 10_000);
        int skim = x.separate(lot, 1, 1) + 1;
        long weight = kilograms * 1000 / (10_000 - fat);
        dueLot(what + ", skim at " + kilograms, x, skim, weight, fat, 0);
    }

    private static void rowsOfTheSeparator() {
        FatBalance x = new FatBalance();
        long[][] refused = {{0, 0, 1}, {-1, 0, 1}, {1_000_001, 0, 1}, {Long.MIN_VALUE, 0, 1}, {Long.MAX_VALUE, 0, 1}, {1, 0, 0},
            {1, 0, -1}, {1, 0, 10_001}, {1, 1, 3}, {1, 2, 1}, {1, -1, 1}, {1, Long.MAX_VALUE, 1}, {1, 0, Long.MIN_VALUE},
            {1, 1L << 60, 16}, {(1L << 32) + 1, 0, 1}};
        for (long[] r : refused) {
            due("efficiency(" + r[0] + ", " + r[1] + ", " + r[2] + ")", x.efficiency(r[0], r[1], r[2]), false);
        }
        dueSkimFat("no rows", x, 50_000, 0);
        due("one row", x.efficiency(50_000, 30, 10_000), true);
        dueSkimFat("before one row", x, 49_999, 30);
        dueSkimFat("at one row", x, 50_000, 30);
        dueSkimFat("behind one row", x, 1_000_000, 30);
        due("a row before", x.efficiency(20_000, 60, 10_000), true);
        due("a row behind", x.efficiency(50_007, 35, 10_000), true);
        dueSkimFat("before the first", x, 10_000, 60);
        dueSkimFat("at the first", x, 20_000, 60);
        // falling from 60: 60 - 30 / 30,000 is 59.999, and rounded down 59
        dueSkimFat("just behind the first", x, 20_001, 59);
        dueSkimFat("one part below", x, 21_000, 59);
        dueSkimFat("just behind that", x, 21_001, 58);
        dueSkimFat("just before the second", x, 49_999, 30);
        dueSkimFat("at the second", x, 50_000, 30);
        // rising from 30 by 5 in 7
        dueSkimFat("rising by 5 / 7", x, 50_001, 30);
        dueSkimFat("rising by 10 / 7", x, 50_002, 31);
        dueSkimFat("rising by 30 / 7", x, 50_006, 34);
        dueSkimFat("at the last", x, 50_007, 35);
        dueSkimFat("behind the last", x, 50_008, 35);
        due("the second gives way", x.efficiency(50_000, 8000, 10_000), true);
        dueSkimFat("at the new second", x, 50_000, 8000);
        dueSkimFat("toward the new second", x, 35_000, 4030);
        FatBalance ends = new FatBalance();
        due("least kilograms", ends.efficiency(1, 0, 1), true);
        due("most kilograms", ends.efficiency(1_000_000, 1, 1), true);
        dueSkimFat("between the ends", ends, 500_000, 4999);
        due("at the end all is fat", ends.separate(ends.lot(1_000_000, 9999, 10_000), 1, 1), -1);
    }

    private static void rowsUpToTwenty() {
        FatBalance x = new FatBalance();
        for (int i = 20; i > 0; i--) {
            due("row " + i, x.efficiency(i * 10_000, i, 10_000), true);
        }
        due("a row more", x.efficiency(5, 1, 10_000), false);
        due("a row more, between", x.efficiency(15_000, 1, 10_000), false);
        due("a row more, behind", x.efficiency(1_000_000, 1, 10_000), false);
        dueSkimFat("unchanged before", x, 9_000, 1);
        dueSkimFat("unchanged between", x, 15_000, 1);
        dueSkimFat("unchanged behind", x, 900_000, 20);
        due("one gives way with twenty", x.efficiency(10_000, 100, 10_000), true);
        due("the last gives way with twenty", x.efficiency(200_000, 200, 10_000), true);
        dueSkimFat("the new first", x, 9_000, 100);
        dueSkimFat("the new last", x, 900_000, 200);
        dueSkimFat("the others stay", x, 130_000, 13);
    }

    private static void clearingTheChosen() {
        FatBalance x = withLots(new long[] {9, 100, 0}, new long[] {9, 100, 0});
        x.clearChosen();
        due("nothing", x.standard(1, 0, 100), -1);
        x.choose(0);
        x.choose(1);
        due("standard", x.standard(1, 0, 100), 0);
        x.clearChosen();
        dueShare("what was met stays", x, 0, 1, 1);
        due("nothing is chosen", x.standard(1, 0, 100), -1);
        due("can be chosen again", x.choose(1), true);
        due("and again", x.choose(0), true);
        due("standard", x.standard(1, 0, 100), 0);
        dueShare("the new first", x, 1, 1, 1);
        dueShare("the new second", x, 0, 0, 1);
    }
}
