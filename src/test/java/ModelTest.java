import java.math.BigInteger;
import java.util.ArrayList;
import java.util.Arrays;
import java.util.HashMap;
import java.util.List;
import java.util.Map;
import java.util.TreeMap;

/** Long made-up runs against a plain model in big numbers, which finds standards in another way than the class. */
public final class ModelTest {
    private static final int RUNS = 1500;
    /** The document promises nothing behind the last of these. */
    private static final int CALLS = 512;
    /** standard() and the shares of four chosen lots and of two others. */
    private static final int MOST_CALLS_OF_A_STEP = 13;
    private static final long[] ODD = {0, 1, -1, 2, 3, 9_999, 10_000, 10_001, 1_000_000, 1_000_001, 1L << 32, (1L << 32) + 1,
        1L << 60, Long.MAX_VALUE, Long.MIN_VALUE, Integer.MAX_VALUE, Integer.MIN_VALUE};
    private static final long[] BELOWS = {1, 2, 4, 5, 10, 100, 1000, 10_000, 10_000, 10_000, 3, 7, 9_999};

    private static int wrong = 0;
    private static int met = 0;
    private static int full = 0;
    private static int calls = 0;
    private static long state = 20_261_115L;

    public static void main(String[] args) {
        for (int run = 0; run < RUNS; run++) {
            oneRun(run);
        }
        if (met < 1000 || full < 1000) {
            wrong++;
            System.out.println("only " + met + " standards were met, " + full + " answers were FULL: the runs try too little");
        }
        System.out.println(wrong == 0 ? "all answers are as due" : wrong + " answers are not as due");
        if (wrong != 0) {
            System.exit(1);
        }
    }

    private static void oneRun(int run) {
        FatBalance x = new FatBalance();
        Model model = new Model();
        // a coarse run has few different lots, so that standards meet corners, sides and lots that are alike
        long grain = new long[] {1, 1000, 2500, 100}[run % 4];
        calls = 0;
        while (calls <= CALLS - MOST_CALLS_OF_A_STEP) {
            oneStep(run, x, model, grain);
        }
        while (calls < CALLS) {
            int lot = pick(model.lots.size() + 1);
            due(run, "pay", x.pay(lot), model.pay(lot), lot);
        }
    }

    private static void oneStep(int run, FatBalance x, Model m, long grain) {
        long a = parts(grain);
        long b = parts(grain);
        long below = pick(20) == 0 ? ODD[pick(ODD.length)] : grain > 1 ? 10_000 : BELOWS[pick(BELOWS.length)];
        int lot = pick(30) == 0 ? (int) ODD[pick(ODD.length)] : pick(m.lots.size() + 2) - 1;
        // some runs make many lots, so that they come to the last one
        switch (run % 3 == 0 && pick(4) == 0 ? 0 : pick(14)) {
            case 0 -> { long k = weight(); due(run, "lot", x.lot(k, a, below), m.lot(k, a, below), k, a, below); }
            case 1, 2 -> { long s = a / 2 / grain * grain;
                due(run, "solids", bit(x.solids(lot, s, below)), bit(m.solids(lot, s, below)), lot, s, below); }
            case 3 -> { if (pick(3) == 0) {
                due(run, "separate", x.separate(lot, a, below), m.separate(lot, a, below), lot, a, below); } }
            case 4, 5, 6 -> due(run, "choose", bit(x.choose(lot)), bit(m.choose(lot)), lot);
            case 7, 8 -> { long[] want = wanted(m, a, b, below);
                long got = x.standard(want[0], want[1], want[2]);
                met += got == 0 ? 1 : 0;
                due(run, "standard", got, m.standard(want[0], want[1], want[2]), want);
                m.chosen.forEach(i -> dueShare(run, x, m, i));
                dueShare(run, x, m, pick(m.lots.size() + 1));
                dueShare(run, x, m, lot); }
            case 9 -> { int part = pick(4) - 1; due(run, "share", x.share(lot, part), m.share(lot, part), lot, part); }
            case 10 -> { int kind = pick(5) - 1; int part = pick(5) - 1;
                due(run, "yieldOf", x.yieldOf(lot, kind, part), m.yieldOf(lot, kind, part), lot, kind, part); }
            case 11 -> { int day = pick(m.losses.size() + 2) - 1;
                due(run, "loss", x.loss(day), m.loss(day), day);
                due(run, "pay", x.pay(lot), m.pay(lot), lot); }
            case 12 -> { long k = weight(); long e = pick(3) == 0 ? a : a / 100;
                due(run, "efficiency", bit(x.efficiency(k, e, below)), bit(m.efficiency(k, e, below)), k, e, below);
                if (pick(3) == 0) {
                    due(run, "penalty", bit(x.penalty(a, b / 10)), bit(m.penalty(a, b / 10)), a, b / 10);
                } }
            default -> { if (pick(6) == 0) { calls++; x.clearChosen(); m.chosen.clear(); } }
        }
    }

    private static void dueShare(int run, FatBalance x, Model m, int lot) {
        due(run, "share", x.share(lot, 0), m.share(lot, 0), lot, 0);
        due(run, "share", x.share(lot, 1), m.share(lot, 1), lot, 1);
    }

    /** Often a point that the chosen lots can meet: one of them, or a middle of some. */
    private static long[] wanted(Model m, long a, long b, long below) {
        if (m.chosen.isEmpty() || pick(5) == 0) {
            return new long[] {a, b, below};
        }
        long fat = 0;
        long solids = 0;
        long sum = 0;
        for (int lot : m.chosen) {
            long weight = pick(3);
            fat += weight * m.lots.get(lot)[1];
            solids += weight * m.lots.get(lot)[2];
            sum += weight;
        }
        return sum == 0 ? new long[] {a, b, below} : new long[] {fat / sum, solids / sum, 10_000};
    }

    /** One call of the class, and its answer. */
    private static void due(int run, String call, long got, long want, long... arguments) {
        calls++;
        full += want == -2 ? 1 : 0;
        if (got != want) {
            wrong++;
            if (wrong <= 50) {
                System.out.println("run " + run + ": " + call + Arrays.toString(arguments) + " answered " + got + ", due is " + want);
            }
        }
    }

    private static long bit(boolean answer) {
        return answer ? 1 : 0;
    }

    private static int pick(int bound) {
        state = state * 6_364_136_223_846_793_005L + 1_442_695_040_888_963_407L;
        return (int) ((state >>> 33) % bound);
    }

    private static long parts(long grain) {
        return pick(25) == 0 ? ODD[pick(ODD.length)] : pick((int) (10_000 / grain) + 1) * grain;
    }

    private static long weight() {
        int kind = pick(10);
        return kind == 0 ? ODD[pick(ODD.length)] : kind < 5 ? pick(30) + 1 : pick(1_000_000) + 1;
    }

    /** above / below, reduced, below greater than 0. */
    private record Fraction(BigInteger above, BigInteger below) {
        static Fraction of(BigInteger above, BigInteger below) {
            BigInteger divisor = above.gcd(below).multiply(BigInteger.valueOf(below.signum()));
            return new Fraction(above.divide(divisor), below.divide(divisor));
        }

        static Fraction of(long whole) {
            return of(BigInteger.valueOf(whole), BigInteger.ONE);
        }

        Fraction plus(Fraction o) {
            return of(above.multiply(o.below).add(o.above.multiply(below)), below.multiply(o.below));
        }

        Fraction minus(Fraction o) {
            return plus(of(o.above.negate(), o.below));
        }

        Fraction times(Fraction o) {
            return of(above.multiply(o.above), below.multiply(o.below));
        }

        Fraction over(Fraction o) {
            return times(of(o.below, o.above));
        }

        boolean isNone() {
            return above.signum() == 0;
        }

        boolean isLess(Fraction o) {
            return minus(o).above.signum() < 0;
        }

        long floor() {
            BigInteger[] parts = above.divideAndRemainder(below);
            return parts[0].longValueExact() - (parts[1].signum() < 0 ? 1 : 0);
        }
    }

    private record Point(Fraction fat, Fraction solids) {
        Point minus(Point o) {
            return new Point(fat.minus(o.fat), solids.minus(o.solids));
        }

        Point ahead(Point way, Fraction times) {
            return new Point(fat.plus(way.fat.times(times)), solids.plus(way.solids.times(times)));
        }

        Fraction cross(Point o) {
            return fat.times(o.solids).minus(solids.times(o.fat));
        }

        Fraction dot(Point o) {
            return fat.times(o.fat).plus(solids.times(o.solids));
        }
    }

    private static final Fraction ZERO = Fraction.of(0);
    private static final Fraction ONE = Fraction.of(1);

    /**
     * The first lot has the most when the rest must make the point that is farthest on the ray from the first lot
     * through the wanted point; then the rest is standardised to that point. Null when it is impossible.
     */
    private static List<Fraction> shares(List<Point> lots, Point wanted) {
        List<Fraction> answer = new ArrayList<>();
        Point first = lots.get(0);
        List<Point> rest = lots.subList(1, lots.size());
        if (first.equals(wanted)) {
            answer.add(ONE);
            rest.forEach(lot -> answer.add(ZERO));
            return answer;
        }
        Point way = wanted.minus(first);
        Fraction farthest = null;
        for (Point one : rest) {
            for (Point other : rest) {
                Fraction reached = reach(first, way, one, other);
                if (reached != null && !reached.isLess(ONE) && (farthest == null || farthest.isLess(reached))) {
                    farthest = reached;
                }
            }
        }
        if (farthest == null) {
            return null;
        }
        Fraction left = ONE.over(farthest);
        answer.add(ONE.minus(left));
        for (Fraction share : shares(rest, first.ahead(way, farthest))) {
            answer.add(share.times(left));
        }
        return answer;
    }

    /** How many times the way leads from the start to the side between two points; null when it does not. */
    private static Fraction reach(Point start, Point way, Point one, Point other) {
        Point side = other.minus(one);
        Point to = one.minus(start);
        Fraction turn = way.cross(side);
        if (turn.isNone()) {
            return to.cross(way).isNone() ? to.dot(way).over(way.dot(way)) : null;
        }
        Fraction onSide = to.cross(way).over(turn);
        return onSide.isLess(ZERO) || ONE.isLess(onSide) ? null : to.cross(side).over(turn);
    }

    /** A lot is {kilograms, fat, solids, separated}. */
    private static final class Model {
        private final List<long[]> lots = new ArrayList<>();
        private final TreeMap<Long, Long> rows = new TreeMap<>();
        private final List<Long> losses = new ArrayList<>();
        private final List<long[]> told = new ArrayList<>();
        private final List<Integer> chosen = new ArrayList<>();
        private Map<Integer, Fraction> met = null;

        static Long inParts(long above, long below) {
            if (below < 1 || below > 10_000) {
                return null;
            }
            Fraction f = Fraction.of(BigInteger.valueOf(above), BigInteger.valueOf(below)).times(Fraction.of(10_000));
            boolean isFit = f.below.equals(BigInteger.ONE) && !f.isLess(ZERO) && !Fraction.of(10_000).isLess(f);
            return isFit ? Long.valueOf(f.floor()) : null;
        }

        boolean has(int lot) {
            return lot >= 0 && lot < lots.size();
        }

        boolean hasWhole(int lot) {
            return has(lot) && lots.get(lot)[3] == 0;
        }

        int lot(long k, long above, long below) {
            Long fat = inParts(above, below);
            if (k < 1 || k > 1_000_000 || fat == null) {
                return -1;
            }
            if (lots.size() == 60) {
                return -2;
            }
            lots.add(new long[] {k, fat, 0, 0});
            return lots.size() - 1;
        }

        boolean solids(int lot, long above, long below) {
            Long parts = inParts(above, below);
            if (!hasWhole(lot) || parts == null || parts + lots.get(lot)[1] > 10_000) {
                return false;
            }
            lots.get(lot)[2] = parts;
            return true;
        }

        long skimFat(long k) {
            Map.Entry<Long, Long> before = rows.floorEntry(k);
            Map.Entry<Long, Long> behind = rows.ceilingEntry(k);
            if (before == null || behind == null) {
                return before != null ? before.getValue() : behind != null ? behind.getValue() : 0;
            }
            if (before.getKey().equals(behind.getKey())) {
                return before.getValue();
            }
            Fraction way = Fraction.of(k - before.getKey()).over(Fraction.of(behind.getKey() - before.getKey()));
            return Fraction.of(before.getValue()).plus(Fraction.of(behind.getValue() - before.getValue()).times(way)).floor();
        }

        int separate(int lot, long above, long below) {
            Long c = inParts(above, below);
            if (!hasWhole(lot) || lots.get(lot)[0] == 0 || c == null) {
                return -1;
            }
            long k = lots.get(lot)[0];
            long f = lots.get(lot)[1];
            long s = lots.get(lot)[2];
            long e = skimFat(k);
            if (!(e < f && f < c)) {
                return -1;
            }
            if (lots.size() > 58) {
                return -2;
            }
            long cream = Fraction.of(k).times(Fraction.of(f - e)).over(Fraction.of(c - e)).floor();
            long skim = Fraction.of(k).times(Fraction.of(c - f)).over(Fraction.of(c - e)).floor();
            Fraction rest = Fraction.of(s).over(Fraction.of(10_000 - f));
            lots.add(new long[] {cream, c, rest.times(Fraction.of(10_000 - c)).floor(), 0});
            lots.add(new long[] {skim, e, rest.times(Fraction.of(10_000 - e)).floor(), 0});
            losses.add(k - cream - skim);
            lots.get(lot)[3] = 1;
            chosen.remove(Integer.valueOf(lot));
            return lots.size() - 2;
        }

        boolean choose(int lot) {
            return hasWhole(lot) && !chosen.contains(lot) && chosen.size() < 4 && chosen.add(lot);
        }

        int standard(long fatAbove, long solidsAbove, long below) {
            met = null;
            Long fat = inParts(fatAbove, below);
            Long solid = inParts(solidsAbove, below);
            if (chosen.isEmpty() || fat == null || solid == null) {
                return -1;
            }
            List<Point> points = new ArrayList<>();
            for (int lot : chosen) {
                points.add(new Point(Fraction.of(lots.get(lot)[1]), Fraction.of(lots.get(lot)[2])));
            }
            List<Fraction> found = shares(points, new Point(Fraction.of(fat), Fraction.of(solid)));
            if (found == null) {
                return 1;
            }
            met = new HashMap<>();
            for (int i = 0; i < found.size(); i++) {
                met.put(chosen.get(i), found.get(i));
            }
            return 0;
        }

        long share(int lot, int part) {
            return met == null || !has(lot) || part < 0 || part > 1 ? -1 : half(met.getOrDefault(lot, ZERO), part);
        }

        static long half(Fraction f, int part) {
            return (part == 0 ? f.above : f.below).longValueExact();
        }

        long yieldOf(int lot, int kind, int part) {
            if (!has(lot) || kind < 0 || kind > 2 || part < 0 || part > 2) {
                return -1;
            }
            long f = lots.get(lot)[1];
            long s = lots.get(lot)[2];
            long of = kind == 0 ? (93 * f + 75 * s) * 109 : kind == 1 ? f : f + s;
            long below = kind == 0 ? 63_000_000 : kind == 1 ? 8_200 : 9_700;
            Fraction made = Fraction.of(lots.get(lot)[0]).times(Fraction.of(of)).over(Fraction.of(below));
            if (part < 2) {
                return half(made, part);
            }
            return made.times(Fraction.of(1000)).plus(ONE.over(Fraction.of(2))).floor();
        }

        long loss(int day) {
            return day < 0 || day >= losses.size() ? -1 : losses.get(day);
        }

        boolean penalty(long from, long cents) {
            boolean isFit = from >= 1 && from <= 10_000 && cents >= 1 && cents <= 10_000 && told.size() < 10;
            return isFit && told.add(new long[] {from, cents});
        }

        long pay(int lot) {
            if (!has(lot)) {
                return -1;
            }
            long[] l = lots.get(lot);
            long paid = Fraction.of(l[0] * (4 * l[1] + 3 * l[2])).over(Fraction.of(1000)).floor();
            for (long[] penalty : told) {
                if (l[1] < penalty[0]) {
                    paid = Math.max(0, paid + Fraction.of(-penalty[1] * l[0]).over(Fraction.of(100)).floor());
                }
            }
            return paid;
        }

        boolean efficiency(long at, long above, long below) {
            Long fat = inParts(above, below);
            if (at < 1 || at > 1_000_000 || fat == null || rows.size() == 20 && !rows.containsKey(at)) {
                return false;
            }
            rows.put(at, fat);
            return true;
        }
    }
}
