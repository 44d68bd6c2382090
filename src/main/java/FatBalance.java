/** Milk by fat and solids: lots, separating, standardising exactly, yields, payments. */
public final class FatBalance {
    public static final int NONE = -1;
    public static final int FULL = -2;

    private static final int MOST_LOTS = 60;
    private static final int MOST_ROWS = 20;
    private static final int MOST_PENALTIES = 10;
    private static final int MOST_CHOSEN = 4;
    private static final long MOST_KILOGRAMS = 1_000_000L;
    private static final long MOST_CENTS = 10_000L;
    /** Fat and solids are held in parts of this. */
    private static final long WHOLE = 10_000L;

    private static final int ABOVE = 0;
    private static final int BELOW = 1;
    private static final int GRAMS = 2;

    private static final int CHEESE = 0;
    private static final int BUTTER = 1;
    private static final int POWDER = 2;

    private static final long GRAMS_OF_A_KILOGRAM = 1_000L;
    /** Euclid's steps on two longs are fewer. */
    private static final int MOST_DIVISIONS = 100;

    private final long[] kilograms = new long[MOST_LOTS];
    private final long[] fatParts = new long[MOST_LOTS];
    private final long[] solidParts = new long[MOST_LOTS];
    private final boolean[] separated = new boolean[MOST_LOTS];
    private int lotCount = 0;

    /** A separation makes two lots, so there are fewer separations than lots. */
    private final long[] lost = new long[MOST_LOTS];
    private int separationCount = 0;

    private final long[] penaltyFrom = new long[MOST_PENALTIES];
    private final long[] penaltyCents = new long[MOST_PENALTIES];
    private int penaltyCount = 0;

    private final int[] chosen = new int[MOST_CHOSEN];
    private int chosenCount = 0;

    private final Separator separator = new Separator();
    private final Mixture mixture = new Mixture();

    public FatBalance() {
    }

    public int lot(long kilograms, long fatAbove, long fatBelow) {
        long fat = wholeParts(fatAbove, fatBelow);
        if (!isWithin(kilograms, 1, MOST_KILOGRAMS) || fat == NONE) {
            return NONE;
        }
        if (lotCount >= MOST_LOTS) {
            return FULL;
        }
        return addLot(kilograms, fat, 0);
    }

    public boolean solids(int lot, long above, long below) {
        long parts = wholeParts(above, below);
        if (!isUnseparated(lot) || parts == NONE || fatParts[lot] + parts > WHOLE) {
            return false;
        }
        solidParts[lot] = parts;
        return true;
    }

    public int separate(int lot, long fatAbove, long fatBelow) {
        long creamFat = wholeParts(fatAbove, fatBelow);
        if (!isUnseparated(lot) || kilograms[lot] == 0 || creamFat == NONE) {
            return NONE;
        }
        long skimFat = separator.skimFatAt(kilograms[lot]);
        if (skimFat >= fatParts[lot] || fatParts[lot] >= creamFat) {
            return NONE;
        }
        if (lotCount + 2 > MOST_LOTS || separationCount >= MOST_LOTS) {
            return FULL;
        }
        return split(lot, creamFat, skimFat);
    }

    public boolean choose(int lot) {
        if (!isUnseparated(lot) || placeAmongChosen(lot) != NONE || chosenCount >= MOST_CHOSEN) {
            return false;
        }
        chosen[chosenCount] = lot;
        chosenCount++;
        return true;
    }

    public int standard(long fatAbove, long solidsAbove, long below) {
        mixture.forget();
        long fat = wholeParts(fatAbove, below);
        long solid = wholeParts(solidsAbove, below);
        if (chosenCount == 0 || fat == NONE || solid == NONE) {
            return NONE;
        }
        for (int place = 0; place < chosenCount; place++) {
            int lot = chosen[place];
            mixture.add(lot, fatParts[lot], solidParts[lot]);
        }
        return mixture.search(fat, solid) ? 0 : 1;
    }

    public long share(int lot, int part) {
        if (!mixture.isMet() || !isLot(lot) || !isWithin(part, ABOVE, BELOW)) {
            return NONE;
        }
        return reducedPart(mixture.aboveOf(lot), mixture.belowOfAll(), part);
    }

    public long yieldOf(int lot, int kind, int part) {
        if (!isLot(lot) || !isWithin(kind, CHEESE, POWDER) || !isWithin(part, ABOVE, GRAMS)) {
            return NONE;
        }
        long above = yieldAbove(lot, kind);
        long below = yieldBelow(kind);
        return part == GRAMS ? gramsOf(above, below) : reducedPart(above, below, part);
    }

    public long loss(int day) {
        if (day < 0 || day >= separationCount) {
            return NONE;
        }
        return lost[day];
    }

    public boolean penalty(long from, long cents) {
        if (!isWithin(from, 1, WHOLE) || !isWithin(cents, 1, MOST_CENTS) || penaltyCount >= MOST_PENALTIES) {
            return false;
        }
        penaltyFrom[penaltyCount] = from;
        penaltyCents[penaltyCount] = cents;
        penaltyCount++;
        return true;
    }

    public long pay(int lot) {
        if (!isLot(lot)) {
            return NONE;
        }
        long cents = kilograms[lot] * (4 * fatParts[lot] + 3 * solidParts[lot]) / 1_000;
        for (int i = 0; i < penaltyCount; i++) {
            if (fatParts[lot] < penaltyFrom[i]) {
                cents = Math.max(0, cents - hundredthsRoundedUp(penaltyCents[i] * kilograms[lot]));
            }
        }
        return cents;
    }

    public boolean efficiency(long at, long above, long below) {
        long fat = wholeParts(above, below);
        if (!isWithin(at, 1, MOST_KILOGRAMS) || fat == NONE) {
            return false;
        }
        return separator.put(at, fat);
    }

    public void clearChosen() {
        chosenCount = 0;
    }

    private boolean isLot(int lot) {
        return lot >= 0 && lot < lotCount;
    }

    private boolean isUnseparated(int lot) {
        return isLot(lot) && !separated[lot];
    }

    /** The caller has seen that there is room. */
    private int addLot(long weight, long fat, long solid) {
        int number = lotCount;
        kilograms[number] = weight;
        fatParts[number] = fat;
        solidParts[number] = solid;
        lotCount++;
        return number;
    }

    /** The caller has seen that there is room, and skimFat < the lot's fat < creamFat <= WHOLE: no divisor is 0. */
    private int split(int lot, long creamFat, long skimFat) {
        long weight = kilograms[lot];
        long fat = fatParts[lot];
        long cream = weight * (fat - skimFat) / (creamFat - skimFat);
        long skim = weight * (creamFat - fat) / (creamFat - skimFat);
        int number = addLot(cream, creamFat, solidParts[lot] * (WHOLE - creamFat) / (WHOLE - fat));
        addLot(skim, skimFat, solidParts[lot] * (WHOLE - skimFat) / (WHOLE - fat));
        lost[separationCount] = weight - cream - skim;
        separationCount++;
        separated[lot] = true;
        unchoose(lot);
        return number;
    }

    private int placeAmongChosen(int lot) {
        for (int place = 0; place < chosenCount; place++) {
            if (chosen[place] == lot) {
                return place;
            }
        }
        return NONE;
    }

    private void unchoose(int lot) {
        int gap = placeAmongChosen(lot);
        if (gap == NONE) {
            return;
        }
        for (int place = gap + 1; place < chosenCount; place++) {
            chosen[place - 1] = chosen[place];
        }
        chosenCount--;
    }

    private long yieldAbove(int lot, int kind) {
        long weight = kilograms[lot];
        long fat = fatParts[lot];
        long solid = solidParts[lot];
        switch (kind) {
            case CHEESE:
                return weight * (93 * fat + 75 * solid) * 109;
            case BUTTER:
                return weight * fat;
            default:
                return weight * (fat + solid);
        }
    }

    private static long yieldBelow(int kind) {
        switch (kind) {
            case CHEESE:
                return 63_000_000L;
            case BUTTER:
                return 8_200L;
            default:
                return 9_700L;
        }
    }

    private static boolean isWithin(long number, long least, long most) {
        return number >= least && number <= most;
    }

    /** above / below in parts of WHOLE; NONE when it is not 0 to 1 in whole parts, or below is out of range. */
    private static long wholeParts(long above, long below) {
        if (!isWithin(below, 1, WHOLE) || !isWithin(above, 0, below)) {
            return NONE;
        }
        long scaled = above * WHOLE;
        return scaled % below == 0 ? scaled / below : NONE;
    }

    private static long hundredthsRoundedUp(long number) {
        return (number + 99) / 100;
    }

    /** Neither number is below 0 and below is not 0; so with reducedPart. */
    private static long gramsOf(long above, long below) {
        return (2 * GRAMS_OF_A_KILOGRAM * above + below) / (2 * below);
    }

    private static long reducedPart(long above, long below, int part) {
        long divisor = commonDivisor(above, below);
        return part == ABOVE ? above / divisor : below / divisor;
    }

    /** At least 1, so that it can divide. */
    private static long commonDivisor(long first, long second) {
        long larger = first;
        long smaller = second;
        for (int step = 0; step < MOST_DIVISIONS && smaller != 0; step++) {
            long rest = larger % smaller;
            larger = smaller;
            smaller = rest;
        }
        return Math.max(1, larger);
    }

    /** The rows by which the separator leaves fat in the skim, by rising kilograms. */
    private static final class Separator {
        private final long[] rowAt = new long[MOST_ROWS];
        private final long[] rowFat = new long[MOST_ROWS];
        private int rowCount = 0;

        boolean put(long at, long fat) {
            int row = firstNotBefore(at);
            if (row < rowCount && rowAt[row] == at) {
                rowFat[row] = fat;
                return true;
            }
            if (rowCount >= MOST_ROWS) {
                return false;
            }
            for (int i = rowCount; i > row; i--) {
                rowAt[i] = rowAt[i - 1];
                rowFat[i] = rowFat[i - 1];
            }
            rowAt[row] = at;
            rowFat[row] = fat;
            rowCount++;
            return true;
        }

        long skimFatAt(long weight) {
            if (rowCount == 0) {
                return 0;
            }
            int row = firstNotBefore(weight);
            if (row == rowCount) {
                return rowFat[rowCount - 1];
            }
            if (row == 0 || rowAt[row] == weight) {
                return rowFat[row];
            }
            return between(row - 1, row, weight);
        }

        /** The caller has seen that weight lies between the two rows: the divisor is not 0. */
        private long between(int before, int behind, long weight) {
            long rise = (rowFat[behind] - rowFat[before]) * (weight - rowAt[before]);
            // fat may fall from row to row, and then plain division would round up
            return rowFat[before] + Math.floorDiv(rise, rowAt[behind] - rowAt[before]);
        }

        private int firstNotBefore(long weight) {
            for (int row = 0; row < rowCount; row++) {
                if (rowAt[row] >= weight) {
                    return row;
                }
            }
            return rowCount;
        }
    }

    /**
     * The search for a standard. Each lot is a point (fat, solids), and so is what is wanted. The shares that are
     * greatest, lot after lot, are a corner of all that are possible, and at a corner the lots that have a share
     * are one point, two different points or three that are not in line: so it is enough to try all of these.
     */
    private static final class Mixture {
        /** The place of the wanted point, behind the lots. */
        private static final int WANTED = MOST_CHOSEN;

        private final int[] lots = new int[MOST_CHOSEN];
        private int count = 0;
        private final long[] fats = new long[MOST_CHOSEN + 1];
        private final long[] solidsOfPoints = new long[MOST_CHOSEN + 1];

        private final long[] trial = new long[MOST_CHOSEN];
        private long trialBelow = 1;
        private final long[] best = new long[MOST_CHOSEN];
        private long bestBelow = 1;
        private boolean met = false;

        void forget() {
            count = 0;
            met = false;
        }

        void add(int lot, long fat, long solid) {
            if (count >= MOST_CHOSEN) {
                return;
            }
            lots[count] = lot;
            fats[count] = fat;
            solidsOfPoints[count] = solid;
            count++;
        }

        boolean isMet() {
            return met;
        }

        long aboveOf(int lot) {
            for (int place = 0; place < count; place++) {
                if (lots[place] == lot) {
                    return best[place];
                }
            }
            return 0;
        }

        long belowOfAll() {
            return bestBelow;
        }

        boolean search(long fat, long solid) {
            fats[WANTED] = fat;
            solidsOfPoints[WANTED] = solid;
            for (int i = 0; i < count; i++) {
                tryOne(i);
                for (int j = i + 1; j < count; j++) {
                    tryTwo(i, j);
                    for (int k = j + 1; k < count; k++) {
                        tryThree(i, j, k);
                    }
                }
            }
            return met;
        }

        private void tryOne(int i) {
            if (fats[i] == fats[WANTED] && solidsOfPoints[i] == solidsOfPoints[WANTED]) {
                startTrial(1);
                trial[i] = 1;
                keepIfBetter();
            }
        }

        private void tryTwo(int i, int j) {
            long below = product(i, j, j);
            if (below == 0 || doubleArea(i, j, WANTED) != 0) {
                return;
            }
            startTrial(below);
            trial[j] = product(i, j, WANTED);
            trial[i] = below - trial[j];
            keepIfBetter();
        }

        private void tryThree(int i, int j, int k) {
            long below = doubleArea(i, j, k);
            if (below == 0) {
                return;
            }
            long sign = below < 0 ? -1 : 1;
            startTrial(sign * below);
            trial[i] = sign * doubleArea(WANTED, j, k);
            trial[j] = sign * doubleArea(i, WANTED, k);
            trial[k] = sign * doubleArea(i, j, WANTED);
            keepIfBetter();
        }

        private void startTrial(long below) {
            trialBelow = below;
            for (int place = 0; place < MOST_CHOSEN; place++) {
                trial[place] = 0;
            }
        }

        private void keepIfBetter() {
            if (!isTrialPossible() || (met && !isTrialBetter())) {
                return;
            }
            for (int place = 0; place < MOST_CHOSEN; place++) {
                best[place] = trial[place];
            }
            bestBelow = trialBelow;
            met = true;
        }

        private boolean isTrialPossible() {
            for (int place = 0; place < count; place++) {
                if (trial[place] < 0) {
                    return false;
                }
            }
            return true;
        }

        /** All of these are at most 2 * WHOLE * WHOLE, so their products fit a long. */
        private boolean isTrialBetter() {
            for (int place = 0; place < count; place++) {
                long ofTrial = trial[place] * bestBelow;
                long ofBest = best[place] * trialBelow;
                if (ofTrial != ofBest) {
                    return ofTrial > ofBest;
                }
            }
            return false;
        }

        /** The inner product of the ways from point i to j and from i to k. */
        private long product(int i, int j, int k) {
            return (fats[j] - fats[i]) * (fats[k] - fats[i])
                + (solidsOfPoints[j] - solidsOfPoints[i]) * (solidsOfPoints[k] - solidsOfPoints[i]);
        }

        /** Twice the area of the triangle, below 0 when it turns the other way, 0 when the points are in line. */
        private long doubleArea(int i, int j, int k) {
            return (fats[j] - fats[i]) * (solidsOfPoints[k] - solidsOfPoints[i])
                - (fats[k] - fats[i]) * (solidsOfPoints[j] - solidsOfPoints[i]);
        }
    }
}
