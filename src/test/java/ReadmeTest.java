/** The calls of the example in README.md answer what stands there. */
public final class ReadmeTest extends Answers {
    public static void main(String[] args) {
        sentence("README.md, the example");
        FatBalance milk = new FatBalance();
        due("lot", milk.lot(1000, 4, 100), 0);
        due("solids", milk.solids(0, 9, 100), true);
        due("lot", milk.lot(500, 0, 1), 1);
        due("solids", milk.solids(1, 9, 100), true);
        due("choose", milk.choose(0), true);
        due("choose", milk.choose(1), true);
        due("standard", milk.standard(35, 90, 1000), 0);
        due("share", milk.share(0, 0), 7);
        due("share", milk.share(0, 1), 8);
        milk.clearChosen();
        due("efficiency", milk.efficiency(500, 2, 1000), true);
        due("separate", milk.separate(0, 40, 100), 2);
        due("loss", milk.loss(0), 1);
        due("yieldOf, above", milk.yieldOf(2, 1, 0), 1900);
        due("yieldOf, below", milk.yieldOf(2, 1, 1), 41);
        due("yieldOf, grams", milk.yieldOf(2, 1, 2), 46_341);
        due("pay", milk.pay(0), 4300);
        due("penalty", milk.penalty(450, 25), true);
        due("pay", milk.pay(0), 4050);
        due("a third of 10,000", milk.lot(1000, 1, 3), NONE);
        end();
    }
}
