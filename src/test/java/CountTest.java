/** Promise 31: count. */
public final class CountTest {
    private static final Due DUE = new Due("CountTest");

    public static void main(String[] args) {
        counts();
        others();
        oreGone();
        DUE.finish();
    }

    private static void counts() {
        BogForge x = new BogForge();
        x.bog(1_000, 0, 0);
        x.bog(1_000, 0, 0);
        x.bog(1_000, 0, 0);
        x.dig(0, 500);
        x.coal(1, 5_000);
        x.coal(6, 70);
        x.year();
        x.year();
        x.year();
        x.year();
        Kit.pureIron(x, 0);
        Kit.cleanBar(x, 5);
        Kit.cleanBar(x, 7);
        x.right(0, 1, 1, 0);
        x.right(0, 2, 1, 0);
        x.pay(0, 10);
        x.pay(1, 10);
        x.pay(1, 10);
        x.order(0, 1);
        x.order(0, 1);
        x.order(0, 1);
        Kit.tape(x, "h=1:2;m");
        int[] due = {4, 3, 2, 3, 6, 3, 2, 7, 3_070, 0};
        for (int what = 0; what < due.length; what++) {
            DUE.is("count(" + what + ")", x.count(what), due[what]);
        }
    }

    private static void others() {
        BogForge x = new BogForge();
        int[] others = {-1, 10, Integer.MIN_VALUE, Integer.MAX_VALUE};
        for (int other : others) {
            DUE.is("count(" + other + ")", x.count(other), -1);
        }
    }

    private static void oreGone() {
        BogForge x = Kit.works();
        Kit.rules(x, Kit.FULL);
        x.charge(20, 200);
        x.blow(11);
        x.draw();
        DUE.is("17 are gone", x.count(9), 17);
        x.charge(5, 200);
        x.blow(11);
        DUE.is("none before it is drawn", x.count(9), 17);
        x.draw();
        DUE.is("2 more", x.count(9), 19);
        DUE.is("COAL in the YARD", x.count(8), 9_600);
    }
}
