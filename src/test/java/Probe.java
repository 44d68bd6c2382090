import java.util.ArrayList;
import java.util.List;

/** Some 300 calls whose answers tell nearly all of what an object holds. */
final class Probe {
    private static final int LOTS = 8;

    private final FatBalance x;
    private final List<Long> answers = new ArrayList<>();

    private Probe(FatBalance x) {
        this.x = x;
    }

    static List<Long> of(FatBalance x) {
        Probe probe = new Probe(x);
        probe.lots(0, LOTS);
        probe.shares();
        probe.losses();
        probe.standards();
        probe.choosing();
        probe.separating();
        probe.penalties();
        probe.rows();
        probe.room();
        return probe.answers;
    }

    private void lots(int from, int behind) {
        for (int lot = from; lot < behind; lot++) {
            answers.add(x.yieldOf(lot, 1, 0));
            answers.add(x.yieldOf(lot, 2, 0));
            answers.add(x.pay(lot));
        }
    }

    private void shares() {
        for (int lot = 0; lot < LOTS; lot++) {
            answers.add(x.share(lot, 0));
            answers.add(x.share(lot, 1));
        }
    }

    private void losses() {
        for (int day = 0; day < 10; day++) {
            answers.add(x.loss(day));
        }
    }

    private void standards() {
        answers.add((long) x.standard(1000, 225, 10_000));
        shares();
        answers.add((long) x.standard(0, 0, 1));
        shares();
    }

    private void choosing() {
        for (int lot = 0; lot < LOTS; lot++) {
            answers.add(x.choose(lot) ? 1L : 0L);
        }
        answers.add((long) x.standard(200, 450, 10_000));
        shares();
    }

    private void separating() {
        for (int lot = 0; lot < LOTS; lot++) {
            answers.add((long) x.separate(lot, 9, 10));
        }
        lots(LOTS - 1, LOTS + 10);
        losses();
    }

    private void penalties() {
        for (int i = 0; i < 11; i++) {
            answers.add(x.penalty(9000, 7 + i) ? 1L : 0L);
        }
        lots(0, LOTS);
    }

    private void rows() {
        for (int i = 0; i < 21; i++) {
            answers.add(x.efficiency(7 + 13 * i, 1, 10_000) ? 1L : 0L);
        }
    }

    private void room() {
        for (int i = 0; i < 61; i++) {
            answers.add((long) x.lot(5, 1, 2));
        }
    }
}
