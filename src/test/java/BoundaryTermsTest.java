/** The sentences of 'Terms' that name a boundary, each at the boundary and on both sides of it. */
public final class BoundaryTermsTest extends Answers {
    public static void main(String[] args) {
        lotsFromZeroToFiftyNine();
        sixtyLotsBySeparating();
        kilograms();
        creamWithoutKilograms();
        skimWithoutKilograms();
        fatAndSolidsTogether();
        fatAndSolidsOfCreamAndSkimTogether();
        withoutRows();
        oneRow();
        atARow();
        betweenRisingRows();
        betweenFallingRows();
        betweenRowsFarApart();
        theTwoRowsNextToIt();
        twentyRows();
        skimFatBelowFat();
        fatBelowCreamFat();
        kilogramsRoundedDown();
        solidsRoundedDown();
        whatIsLeftIsLost();
        atMostFourChosen();
        noShareBelowZero();
        sharesSumToOne();
        exactlyThatFatAndThoseSolids();
        exactlyThatOfLotsThatAreAlike();
        exactlyThatOfLotsInLine();
        theFirstHasTheGreatestShare();
        thenTheSecondAndSoOn();
        theOrderIsThatOfChoosing();
        end();
    }

    private static void lotsFromZeroToFiftyNine() {
        sentence("LOTS are numbered from 0, at most 60");
        FatBalance x = new FatBalance();
        for (int i = 0; i < 60; i++) {
            due("pay of lot " + i + " before it is there", x.pay(i), NONE);
            due("lot number " + i, x.lot(i + 1, i, 100), i);
        }
        for (int i = 0; i < 3; i++) {
            due("a lot behind the sixtieth", x.lot(1, 0, 1), FULL);
        }
        for (int i = 0; i < 60; i++) {
            due("pay of lot " + i, x.pay(i), (i + 1) * 4L * 100 * i / 1000);
        }
        due("pay(60)", x.pay(60), NONE);
        due("pay(61)", x.pay(61), NONE);
    }

    private static void sixtyLotsBySeparating() {
        sentence("LOTS are numbered from 0, at most 60: cream and skim, too");
        FatBalance x = withAlike(57);
        due("separate with 57", x.separate(0, 1, 1), 57);
        due("separate with 59", x.separate(1, 1, 1), FULL);
        due("lot with 59", x.lot(1, 1, 2), 59);
        due("separate with 60", x.separate(1, 1, 1), FULL);
        due("lot with 60", x.lot(1, 1, 2), FULL);
        FatBalance y = withAlike(58);
        due("separate with 58", y.separate(57, 1, 1), 58);
        dueLot("the sixtieth is skim", y, 59, 50, 0, 0);
        due("lot with 60", y.lot(1, 1, 2), FULL);
        due("separate with 60", y.separate(56, 1, 1), FULL);
        due("pay(60)", y.pay(60), NONE);
    }

    private static void kilograms() {
        sentence("KILOGRAMS (1 .. 1,000,000)");
        FatBalance x = new FatBalance();
        due("0 kilograms", x.lot(0, 1, 2), NONE);
        due("1 kilogram", x.lot(1, 1, 2), 0);
        due("2 kilograms", x.lot(2, 1, 2), 1);
        due("999,999 kilograms", x.lot(999_999, 1, 2), 2);
        due("1,000,000 kilograms", x.lot(1_000_000, 1, 2), 3);
        due("1,000,001 kilograms", x.lot(1_000_001, 1, 2), NONE);
        dueLot("1 kilogram", x, 0, 1, 5000, 0);
        dueLot("2 kilograms", x, 1, 2, 5000, 0);
        dueLot("999,999 kilograms", x, 2, 999_999, 5000, 0);
        dueLot("1,000,000 kilograms", x, 3, 1_000_000, 5000, 0);
    }

    private static void creamWithoutKilograms() {
        sentence("KILOGRAMS of cream perhaps 0");
        FatBalance x = withLots(l(9999, 1, 0), l(10_000, 1, 0), l(1, 1, 0));
        due("9999 kilograms with one part", x.separate(0, 1, 1), 3);
        dueLot("0.9999 kilograms of cream", x, 3, 0, 10_000, 0);
        dueLot("9998.0001 kilograms of skim", x, 4, 9998, 0, 0);
        due("10,000 kilograms with one part", x.separate(1, 1, 1), 5);
        dueLot("1 kilogram of cream", x, 5, 1, 10_000, 0);
        dueLot("9999 kilograms of skim", x, 6, 9999, 0, 0);
        due("1 kilogram with one part", x.separate(2, 1, 1), 7);
        dueLot("0.0001 kilograms of cream", x, 7, 0, 10_000, 0);
        dueLot("0.9999 kilograms of skim", x, 8, 0, 0, 0);
    }

    private static void skimWithoutKilograms() {
        sentence("KILOGRAMS of skim perhaps 0");
        FatBalance x = withLots(l(9999, 9999, 1), l(10_000, 9999, 1));
        due("9999 kilograms, all but one part", x.separate(0, 1, 1), 2);
        dueLot("9998.0001 kilograms of cream", x, 2, 9998, 10_000, 0);
        dueLot("0.9999 kilograms of skim", x, 3, 0, 0, 10_000);
        due("10,000 kilograms, all but one part", x.separate(1, 1, 1), 4);
        dueLot("9999 kilograms of cream", x, 4, 9999, 10_000, 0);
        dueLot("1 kilogram of skim", x, 5, 1, 0, 10_000);
    }

    private static void fatAndSolidsTogether() {
        sentence("FAT and SOLIDS, together at most 10,000");
        for (int fat = 0; fat <= 10_000; fat++) {
            FatBalance x = new FatBalance();
            x.lot(10_000, fat, 10_000);
            if (fat < 10_000) {
                due("one part less than all, fat " + fat, x.solids(0, 9999 - fat, 10_000), true);
                due("pay with 9999, fat " + fat, x.pay(0), 10L * (4 * fat + 3 * (9999 - fat)));
            }
            due("all, fat " + fat, x.solids(0, 10_000 - fat, 10_000), true);
            due("pay with 10,000, fat " + fat, x.pay(0), 10L * (4 * fat + 3 * (10_000 - fat)));
            due("one part more than all, fat " + fat, x.solids(0, 10_001 - fat, 10_000), false);
            due("pay after it, fat " + fat, x.pay(0), 10L * (4 * fat + 3 * (10_000 - fat)));
        }
    }

    private static void fatAndSolidsOfCreamAndSkimTogether() {
        sentence("FAT and SOLIDS, together at most 10,000: cream and skim, too");
        FatBalance x = withLots(l(100, 2000, 8000));
        due("a row", x.efficiency(1, 500, 10_000), true);
        due("separate", x.separate(0, 65, 100), 1);
        dueLot("cream that is all fat and solids", x, 1, 25, 6500, 3500);
        dueLot("skim that is all fat and solids", x, 2, 75, 500, 9500);
        due("one part more in cream", x.solids(1, 3501, 10_000), false);
        due("all in cream", x.solids(1, 3500, 10_000), true);
        due("one part less in cream", x.solids(1, 3499, 10_000), true);
        due("one part more in skim", x.solids(2, 9501, 10_000), false);
        due("all in skim", x.solids(2, 9500, 10_000), true);
        due("one part less in skim", x.solids(2, 9499, 10_000), true);
        dueLot("cream", x, 1, 25, 6500, 3499);
        dueLot("skim", x, 2, 75, 500, 9499);
    }

    /** rows: kilograms, fat, and again. The least fat that a lot can be separated with lies one part above what is left. */
    private static void dueLeft(String what, long[] rows, long kilograms, long left) {
        FatBalance x = new FatBalance();
        for (int i = 0; i + 1 < rows.length; i += 2) {
            due("a row at " + rows[i], x.efficiency(rows[i], rows[i + 1], 10_000), true);
        }
        String at = what + ", at " + kilograms + ": ";
        due(at + "the fat that is left", x.separate(x.lot(kilograms, left, 10_000), 1, 1), NONE);
        due(at + "one part more", x.separate(x.lot(kilograms, left + 1, 10_000), 1, 1), 2);
    }

    private static void withoutRows() {
        sentence("without rows 0");
        for (long k : l(1, 2, 500, 999_999, 1_000_000)) {
            dueLeft("without rows", l(), k, 0);
        }
    }

    private static void oneRow() {
        sentence("before the first and behind the last row that row's: one row");
        for (long k : l(1, 2, 499, 500, 501, 999_999, 1_000_000)) {
            dueLeft("one row", l(500, 30), k, 30);
            dueLeft("one row at the least kilograms", l(1, 31), k, 31);
            dueLeft("one row at the most kilograms", l(1_000_000, 32), k, 32);
            dueLeft("one row of no fat", l(500, 0), k, 0);
            dueLeft("one row of nearly all fat", l(500, 9998), k, 9998);
        }
        sentence("before the first and behind the last row that row's: some rows");
        for (long k : l(1, 2, 498, 499, 500)) {
            dueLeft("before the first", l(500, 30, 600, 50, 700, 10), k, 30);
        }
        for (long k : l(700, 701, 702, 999_999, 1_000_000)) {
            dueLeft("behind the last", l(500, 30, 600, 50, 700, 10), k, 10);
        }
    }

    private static void atARow() {
        sentence("for a lot of k kilograms the fat of the row at k");
        long[] rows = l(1, 40, 100, 10, 101, 20, 102, 5, 1_000_000, 7);
        dueLeft("at the first", rows, 1, 40);
        dueLeft("at the second", rows, 100, 10);
        dueLeft("at its neighbour", rows, 101, 20);
        dueLeft("at the next neighbour", rows, 102, 5);
        dueLeft("at the last", rows, 1_000_000, 7);
    }

    private static void betweenRisingRows() {
        sentence("between the rows: u + (v - u) * (k - p) / (n - p), rounded down: rising");
        long[] left = {10, 10, 10, 11, 12, 12, 13, 14, 15, 15};
        for (int i = 0; i < left.length; i++) {
            dueLeft("5 parts in 7 kilograms", l(100, 10, 107, 15), 99 + i, left[i]);
        }
        for (int i = 0; i <= 10; i++) {
            dueLeft("a part for each kilogram", l(100, 10, 110, 20), 100 + i, 10 + i);
            dueLeft("no rise", l(100, 10, 110, 10), 100 + i, 10);
        }
    }

    private static void betweenFallingRows() {
        sentence("between the rows: u + (v - u) * (k - p) / (n - p), rounded down: falling");
        long[] left = {15, 15, 14, 13, 12, 12, 11, 10, 10, 10};
        for (int i = 0; i < left.length; i++) {
            dueLeft("5 parts in 7 kilograms", l(100, 15, 107, 10), 99 + i, left[i]);
        }
        for (int i = 0; i <= 10; i++) {
            dueLeft("a part for each kilogram", l(100, 20, 110, 10), 100 + i, 20 - i);
        }
        dueLeft("to nothing", l(100, 1, 102, 0), 101, 0);
    }

    private static void betweenRowsFarApart() {
        sentence("between the rows: u + (v - u) * (k - p) / (n - p), rounded down: the ends of all ranges");
        long[] rising = l(1, 0, 1_000_000, 9998);
        dueLeft("rising", rising, 1, 0);
        dueLeft("rising", rising, 2, 0);
        // 9998 * 100 / 999,999 is just below 1, 9998 * 101 / 999,999 just above
        dueLeft("rising", rising, 101, 0);
        dueLeft("rising", rising, 102, 1);
        dueLeft("rising", rising, 999_999, 9997);
        dueLeft("rising", rising, 1_000_000, 9998);
        long[] falling = l(1, 9998, 1_000_000, 0);
        dueLeft("falling", falling, 1, 9998);
        dueLeft("falling", falling, 2, 9997);
        dueLeft("falling", falling, 101, 9997);
        dueLeft("falling", falling, 102, 9996);
        dueLeft("falling", falling, 999_999, 0);
        dueLeft("falling", falling, 1_000_000, 0);
        dueLeft("to all fat, half the way", l(1, 0, 3, 10_000), 2, 5000);
        dueLeft("to all fat but one part, half the way", l(1, 0, 3, 9999), 2, 4999);
    }

    private static void theTwoRowsNextToIt() {
        sentence("between the rows at p and n that are next to k");
        long[][] sameRows = {l(100, 10, 200, 20, 300, 0, 400, 8), l(400, 8, 300, 0, 200, 20, 100, 10), l(300, 0, 100, 10, 400, 8, 200, 20),
            l(200, 20, 400, 8, 100, 10, 300, 0), l(100, 77, 200, 20, 400, 8, 300, 0, 100, 10)};
        for (long[] rows : sameRows) {
            dueLeft("just behind the first", rows, 109, 10);
            dueLeft("a tenth of the way", rows, 110, 11);
            dueLeft("just before the second", rows, 199, 19);
            dueLeft("just behind the second", rows, 201, 19);
            dueLeft("in the middle", rows, 250, 10);
            dueLeft("just before the third", rows, 299, 0);
            dueLeft("just behind the third", rows, 312, 0);
            dueLeft("an eighth of the way", rows, 313, 1);
            dueLeft("just before the last", rows, 399, 7);
        }
    }

    private static void twentyRows() {
        sentence("ROWS, at most 20");
        for (int step : new int[] {1, 3, 7, 9, 11, 19}) {
            long[] rows = new long[40];
            for (int i = 0; i < 20; i++) {
                // 7, 3 and the like have no divisor with 20, so each row comes once
                int row = i * step % 20;
                rows[2 * i] = 100 + 10 * row;
                rows[2 * i + 1] = row % 2 == 0 ? 20 : 30;
            }
            for (int row = 0; row < 20; row++) {
                dueLeft("a row of twenty, told by " + step, rows, 100 + 10 * row, row % 2 == 0 ? 20 : 30);
                if (row < 19) {
                    dueLeft("between rows of twenty, told by " + step, rows, 105 + 10 * row, 25);
                }
            }
            dueLeft("before twenty", rows, 99, 20);
            dueLeft("behind twenty", rows, 291, 30);
        }
    }

    private static int separateWith(long skimFat, long fat, long creamFat) {
        FatBalance x = withLots(l(1000, fat, 0));
        due("a row", x.efficiency(1000, skimFat, 10_000), true);
        return x.separate(0, creamFat, 10_000);
    }

    private static void skimFatBelowFat() {
        sentence("e < f < c: e < f");
        for (long e : l(0, 1, 2, 30, 4999, 9997, 9998)) {
            due("e one below f, " + e, separateWith(e, e + 1, 10_000), 1);
            due("e is f, " + e, separateWith(e, e, 10_000), NONE);
            due("e one above f, " + e, separateWith(e + 1, e, 10_000), NONE);
        }
        due("e is all fat, f is not", separateWith(10_000, 9999, 10_000), NONE);
        due("e and f are all fat", separateWith(10_000, 10_000, 10_000), NONE);
        due("e far above f", separateWith(10_000, 1, 2), NONE);
        due("no fat and no rows", withLots(l(1000, 0, 0)).separate(0, 1, 2), NONE);
        due("one part of fat and no rows", withLots(l(1000, 1, 0)).separate(0, 1, 2), 1);
    }

    private static void fatBelowCreamFat() {
        sentence("e < f < c: f < c");
        for (long f : l(1, 2, 30, 4999, 9998, 9999)) {
            due("c one above f, " + f, separateWith(0, f, f + 1), 1);
            due("c is f, " + f, separateWith(0, f, f), NONE);
            due("c one below f, " + f, separateWith(0, f, f - 1), NONE);
        }
        due("f is all fat", separateWith(0, 10_000, 10_000), NONE);
        due("c is no fat", separateWith(0, 5000, 0), NONE);
        due("c is e", separateWith(30, 40, 30), NONE);
        due("both just so", separateWith(30, 31, 32), 1);
    }

    private static void dueSplit(long[] lot, long e, long c, long cream, long skim) {
        FatBalance x = withLots(lot);
        due("a row", x.efficiency(lot[0], e, 10_000), true);
        due("separate", x.separate(0, c, 10_000), 1);
        String what = lot[0] + " kilograms of " + lot[1] + " into " + c + " and " + e;
        dueLot(what + ", cream", x, 1, cream, c, 0);
        dueLot(what + ", skim", x, 2, skim, e, 0);
        due(what + ", lost", x.loss(0), lot[0] - cream - skim);
    }

    private static void kilogramsRoundedDown() {
        sentence("the cream has k * (f - e) / (c - e) kilograms, the skim k * (c - f) / (c - e), both rounded down");
        dueSplit(l(100, 2000, 0), 0, 8000, 25, 75);
        dueSplit(l(99, 2000, 0), 0, 8000, 24, 74);
        dueSplit(l(101, 2000, 0), 0, 8000, 25, 75);
        dueSplit(l(4, 2000, 0), 0, 8000, 1, 3);
        dueSplit(l(3, 2000, 0), 0, 8000, 0, 2);
        dueSplit(l(1, 2000, 0), 0, 8000, 0, 0);
        dueSplit(l(1_000_000, 2000, 0), 0, 8000, 250_000, 750_000);
        dueSplit(l(1_000_000, 9999, 0), 9998, 10_000, 500_000, 500_000);
        dueSplit(l(999_999, 9999, 0), 9998, 10_000, 499_999, 499_999);
        dueSplit(l(1_000_000, 1, 0), 0, 10_000, 100, 999_900);
        dueSplit(l(999_999, 1, 0), 0, 10_000, 99, 999_899);
        dueSplit(l(100, 2500, 0), 500, 8500, 25, 75);
        dueSplit(l(100, 2499, 0), 500, 8500, 24, 75);
        dueSplit(l(100, 2501, 0), 500, 8500, 25, 74);
    }

    private static void dueSolids(long[] lot, long e, long c, long ofCream, long ofSkim) {
        FatBalance x = withLots(lot);
        due("a row", x.efficiency(lot[0], e, 10_000), true);
        due("separate", x.separate(0, c, 10_000), 1);
        String what = "solids " + lot[2] + " with fat " + lot[1] + " into " + c + " and " + e;
        dueLot(what + ", cream", x, 1, lot[0] * (lot[1] - e) / (c - e), c, ofCream);
        dueLot(what + ", skim", x, 2, lot[0] * (c - lot[1]) / (c - e), e, ofSkim);
    }

    private static void solidsRoundedDown() {
        sentence("Solids of each are s * (10,000 - its fat) / (10,000 - f), rounded down");
        dueSolids(l(100_000, 2000, 0), 0, 6000, 0, 0);
        dueSolids(l(100_000, 2000, 1), 0, 6000, 0, 1);
        dueSolids(l(100_000, 2000, 2), 0, 6000, 1, 2);
        dueSolids(l(100_000, 2000, 799), 0, 6000, 399, 998);
        dueSolids(l(100_000, 2000, 800), 0, 6000, 400, 1000);
        dueSolids(l(100_000, 2000, 801), 0, 6000, 400, 1001);
        dueSolids(l(100_000, 2000, 7999), 0, 6000, 3999, 9998);
        dueSolids(l(100_000, 2000, 8000), 0, 6000, 4000, 10_000);
        dueSolids(l(100_000, 2000, 8000), 0, 9999, 1, 10_000);
        dueSolids(l(100_000, 2000, 7999), 0, 9999, 0, 9998);
        dueSolids(l(100_000, 2000, 8000), 0, 10_000, 0, 10_000);
        dueSolids(l(100_000, 9999, 1), 9998, 10_000, 0, 2);
        dueSolids(l(100_000, 9999, 1), 0, 10_000, 0, 10_000);
        dueSolids(l(100_000, 9999, 0), 0, 10_000, 0, 0);
        dueSolids(l(100_000, 400, 900), 20, 4000, 562, 935);
    }

    private static void whatIsLeftIsLost() {
        sentence("what is left of k is LOST");
        for (int k = 1; k <= 40; k++) {
            FatBalance x = withLots(l(k, 2000, 0));
            due("separate", x.separate(0, 8, 10), 1);
            due(k + " kilograms by a fourth", x.loss(0), k % 4 == 0 ? 0 : 1);
        }
    }

    private static void atMostFourChosen() {
        sentence("the CHOSEN lots (at most four)");
        FatBalance x = withLots(l(1, 0, 0), l(1, 100, 0), l(1, 200, 0), l(1, 400, 0), l(1, 800, 0));
        due("first", x.choose(0), true);
        due("the most of one", x.standard(1, 0, 10_000), 1);
        due("second", x.choose(1), true);
        due("the most of two", x.standard(100, 0, 10_000), 0);
        due("more than of two", x.standard(101, 0, 10_000), 1);
        due("third", x.choose(2), true);
        due("the most of three", x.standard(200, 0, 10_000), 0);
        due("more than of three", x.standard(201, 0, 10_000), 1);
        due("fourth", x.choose(3), true);
        due("the most of four", x.standard(400, 0, 10_000), 0);
        dueShare("the most of four", x, 3, 1, 1);
        due("fifth", x.choose(4), false);
        due("more than of four", x.standard(401, 0, 10_000), 1);
        due("the fifth's own", x.standard(800, 0, 10_000), 1);
    }

    private static void noShareBelowZero() {
        sentence("shares of these, none below 0");
        int[][] orders = {{0, 1, 2}, {2, 1, 0}, {1, 2, 0}};
        for (int[] order : orders) {
            FatBalance x = withLots(l(1, 2, 2), l(1, 2, 5), l(1, 6, 2));
            for (int lot : order) {
                due("choosing", x.choose(lot), true);
            }
            for (int fat = 0; fat <= 8; fat++) {
                for (int solid = 0; solid <= 6; solid++) {
                    dueInTriangle(x, fat, solid);
                }
            }
        }
        FatBalance two = withChosen(l(1, 100, 300), l(1, 400, 0));
        due("one part before the first of two", two.standard(99, 301, 10_000), 1);
        due("at the first of two", two.standard(100, 300, 10_000), 0);
        due("one part behind the first of two", two.standard(101, 299, 10_000), 0);
        due("one part before the second of two", two.standard(399, 1, 10_000), 0);
        due("at the second of two", two.standard(400, 0, 10_000), 0);
    }

    /** The lots are (2, 2), (2, 5) and (6, 2): the shares are read off their sides. */
    private static void dueInTriangle(FatBalance x, int fat, int solid) {
        long third = fat - 2;
        long second = solid - 2;
        long first = 12 - 3 * third - 4 * second;
        boolean isInside = first >= 0 && second >= 0 && third >= 0;
        String what = "(" + fat + ", " + solid + ") of a triangle";
        due(what, x.standard(fat, solid, 10_000), isInside ? 0 : 1);
        if (isInside) {
            dueReduced(what, x, 0, first, 12);
            dueReduced(what, x, 1, second, 3);
            dueReduced(what, x, 2, third, 4);
        } else {
            dueNothingMet(what, x, 3);
        }
    }

    private static void dueReduced(String what, FatBalance x, int lot, long above, long below) {
        long divisor = java.math.BigInteger.valueOf(above).gcd(java.math.BigInteger.valueOf(below)).longValue();
        dueShare(what, x, lot, above / divisor, below / divisor);
    }

    private static void sharesSumToOne() {
        sentence("shares that sum to 1");
        FatBalance one = withChosen(l(1, 100, 200));
        due("half of one lot", one.standard(50, 100, 10_000), 1);
        due("none of one lot", one.standard(0, 0, 10_000), 1);
        due("one lot", one.standard(100, 200, 10_000), 0);
        due("one lot twice", one.standard(200, 400, 10_000), 1);
        FatBalance two = withChosen(l(1, 100, 0), l(1, 0, 100));
        due("both whole", two.standard(100, 100, 10_000), 1);
        due("both half", two.standard(50, 50, 10_000), 0);
        due("both a fourth", two.standard(25, 25, 10_000), 1);
        due("a half and a part more", two.standard(51, 50, 10_000), 1);
        due("a half and a part less", two.standard(49, 50, 10_000), 1);
    }

    private static void exactlyThatFatAndThoseSolids() {
        sentence("whose fat and solids, by shares, are exactly F and S");
        FatBalance point = withChosen(l(1, 100, 200));
        FatBalance line = withChosen(l(1, 100, 200), l(1, 104, 202));
        for (int fat = 98; fat <= 106; fat++) {
            for (int solid = 198; solid <= 204; solid++) {
                boolean isOnLine = fat - 100 == 2 * (solid - 200) && fat >= 100 && fat <= 104;
                String what = "(" + fat + ", " + solid + ")";
                due("one lot, " + what, point.standard(fat, solid, 10_000), fat == 100 && solid == 200 ? 0 : 1);
                due("two lots, " + what, line.standard(fat, solid, 10_000), isOnLine ? 0 : 1);
            }
        }
        FatBalance wide = withChosen(l(1, 10_000, 0), l(1, 0, 10_000));
        for (long fat : l(0, 1, 2, 4999, 5000, 9998, 9999, 10_000)) {
            due("wide, " + fat, wide.standard(fat, 10_000 - fat, 10_000), 0);
            dueReduced("wide, " + fat, wide, 0, fat, 10_000);
            dueReduced("wide, " + fat, wide, 1, 10_000 - fat, 10_000);
            due("wide, a part of fat less, " + fat, wide.standard(Math.max(0, fat - 1), 10_000 - fat, 10_000), fat == 0 ? 0 : 1);
            due("wide, a part of fat more, " + fat, wide.standard(fat + 1, 10_000 - fat, 10_000), fat == 10_000 ? NONE : 1);
        }
    }

    private static void exactlyThatOfLotsThatAreAlike() {
        sentence("whose fat and solids, by shares, are exactly F and S: lots that are alike");
        for (int count = 1; count <= 4; count++) {
            FatBalance x = withAlike(count);
            for (int lot = 0; lot < count; lot++) {
                due("choosing", x.choose(lot), true);
            }
            due(count + " alike, their own", x.standard(5000, 0, 10_000), 0);
            dueShare(count + " alike, their own", x, 0, 1, 1);
            for (long[] other : new long[][] {l(4999, 0), l(5001, 0), l(5000, 1), l(0, 0), l(10_000, 0), l(0, 10_000)}) {
                due(count + " alike, another", x.standard(other[0], other[1], 10_000), 1);
                dueNothingMet(count + " alike, another", x, count);
            }
        }
    }

    private static void exactlyThatOfLotsInLine() {
        sentence("whose fat and solids, by shares, are exactly F and S: lots in line");
        FatBalance x = withChosen(l(1, 102, 201), l(1, 106, 203), l(1, 102, 201), l(1, 104, 202));
        for (int fat = 100; fat <= 108; fat++) {
            for (int solid = 200; solid <= 204; solid++) {
                boolean isOnLine = fat - 100 == 2 * (solid - 200) && fat >= 102 && fat <= 106;
                due("in line, (" + fat + ", " + solid + ")", x.standard(fat, solid, 10_000), isOnLine ? 0 : 1);
                due("its first share", x.share(0, 0) == NONE, !isOnLine);
            }
        }
        due("in the middle of the line", x.standard(104, 202, 10_000), 0);
        dueShare("the first has the most", x, 0, 1, 2);
        dueShare("with the end of the line", x, 1, 1, 2);
        dueShare("its like", x, 2, 0, 1);
        dueShare("the middle itself", x, 3, 0, 1);
    }

    private static void dueShares(String what, FatBalance x, long fat, long solid, long[]... shares) {
        due(what, x.standard(fat, solid, 10_000), 0);
        for (int lot = 0; lot < shares.length; lot++) {
            dueShare(what, x, lot, shares[lot][0], shares[lot][1]);
        }
    }

    private static void theFirstHasTheGreatestShare() {
        sentence("Of all such, the one in which the first chosen lot has the greatest share");
        FatBalance square = withChosen(l(1, 0, 0), l(1, 100, 0), l(1, 0, 100), l(1, 100, 100));
        dueShares("the middle", square, 50, 50, l(1, 2), l(0, 1), l(0, 1), l(1, 2));
        dueShares("near the first", square, 25, 25, l(3, 4), l(0, 1), l(0, 1), l(1, 4));
        dueShares("far from the first", square, 75, 75, l(1, 4), l(0, 1), l(0, 1), l(3, 4));
        dueShares("one part before the far corner", square, 99, 99, l(1, 100), l(0, 1), l(0, 1), l(99, 100));
        dueShares("the far corner", square, 100, 100, l(0, 1), l(0, 1), l(0, 1), l(1, 1));
        dueShares("one part from the first", square, 1, 1, l(99, 100), l(0, 1), l(0, 1), l(1, 100));
        dueShares("the first", square, 0, 0, l(1, 1), l(0, 1), l(0, 1), l(0, 1));
        dueShares("to one side of the middle", square, 51, 50, l(49, 100), l(1, 100), l(0, 1), l(1, 2));
        dueShares("to the other side", square, 50, 51, l(49, 100), l(0, 1), l(1, 100), l(1, 2));
        FatBalance within = withChosen(l(1, 50, 50), l(1, 0, 0), l(1, 200, 0), l(1, 0, 200));
        dueShares("a lot among the others", within, 50, 50, l(1, 1), l(0, 1), l(0, 1), l(0, 1));
        // the rest is a fiftieth, on the side between the second and the fourth
        dueShares("one part beside it", within, 49, 50, l(49, 50), l(3, 200), l(0, 1), l(1, 200));
    }

    private static void thenTheSecondAndSoOn() {
        sentence("of these, in which the second has, and so on");
        FatBalance second = withChosen(l(1, 0, 100), l(1, 0, 0), l(1, 50, 0), l(1, 100, 0));
        dueShares("none of the first: most of the second", second, 50, 0, l(0, 1), l(1, 2), l(0, 1), l(1, 2));
        dueShares("none of the first: a part less", second, 49, 0, l(0, 1), l(51, 100), l(0, 1), l(49, 100));
        dueShares("half of the first: most of the second", second, 25, 50, l(1, 2), l(1, 4), l(0, 1), l(1, 4));
        FatBalance third = withChosen(l(1, 0, 100), l(1, 0, 200), l(1, 50, 0), l(1, 50, 0));
        dueShares("none of the first two: all of the third", third, 50, 0, l(0, 1), l(0, 1), l(1, 1), l(0, 1));
        dueShares("the rest to the third", third, 25, 50, l(1, 2), l(0, 1), l(1, 2), l(0, 1));
        dueShares("the rest to the third, without the first", third, 25, 100, l(0, 1), l(1, 2), l(1, 2), l(0, 1));
        FatBalance alike = withChosen(l(1, 0, 0), l(1, 100, 0), l(1, 100, 0), l(1, 100, 0));
        dueShares("the second before its likes", alike, 25, 0, l(3, 4), l(1, 4), l(0, 1), l(0, 1));
        dueShares("no share left", alike, 0, 0, l(1, 1), l(0, 1), l(0, 1), l(0, 1));
        FatBalance same = withChosen(l(1, 7, 7), l(2, 7, 7), l(3, 7, 7), l(4, 7, 7));
        dueShares("all alike", same, 7, 7, l(1, 1), l(0, 1), l(0, 1), l(0, 1));
    }

    private static void theOrderIsThatOfChoosing() {
        sentence("in the order in which they were chosen");
        long[][] lots = {l(1, 0, 0), l(1, 50, 0), l(1, 100, 0), l(1, 200, 0)};
        int[][] orders = {{3, 2, 1, 0}, {2, 0, 3, 1}, {1, 3, 0, 2}, {0, 3, 1, 2}};
        long[][][] due = {
            {l(1, 2), l(0, 1), l(0, 1), l(1, 2)},
            {l(0, 1), l(0, 1), l(1, 1), l(0, 1)},
            {l(0, 1), l(2, 3), l(0, 1), l(1, 3)},
            {l(1, 2), l(0, 1), l(0, 1), l(1, 2)},
        };
        for (int i = 0; i < orders.length; i++) {
            FatBalance x = withLots(lots);
            for (int lot : orders[i]) {
                due("choosing", x.choose(lot), true);
            }
            dueShares("order " + i, x, 100, 0, due[i]);
        }
    }
}
