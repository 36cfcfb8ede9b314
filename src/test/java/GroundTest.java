/** Promises 2 to 6 and 30: bogs, tests, digging, COAL, YEARS. */
public final class GroundTest {
    private static final Due DUE = new Due("GroundTest");

    public static void main(String[] args) {
        bog();
        test();
        dig();
        rest();
        coal();
        yearGrows();
        yearIsRefused();
        ground();
        DUE.finish();
    }

    private static void bog() {
        BogForge x = new BogForge();
        int[][] wrong = {{-1, 0, 0}, {100_001, 0, 0}, {0, -1, 0}, {0, 5_001, 0}, {0, 0, -1}, {0, 0, 21},
            {Integer.MIN_VALUE, 0, 0}, {Integer.MAX_VALUE, 0, 0}, {0, Integer.MAX_VALUE, 0}, {0, 0, Integer.MIN_VALUE}};
        for (int[] w : wrong) {
            DUE.is("bog(" + w[0] + ", " + w[1] + ", " + w[2] + ")", x.bog(w[0], w[1], w[2]), -1);
        }
        DUE.is("no BOG by refused calls", x.count(1), 0);
        DUE.is("least bog", x.bog(0, 0, 0), 0);
        DUE.is("greatest bog", x.bog(100_000, 5_000, 20), 1);
        for (int i = 2; i < 12; i++) {
            DUE.is("bog number", x.bog(i, i, i), i);
        }
        DUE.is("thirteenth bog", x.bog(1, 1, 1), -1);
        DUE.is("BOGS", x.count(1), 12);
        DUE.is("ORE of the greatest", x.ground(1, 0), 100_000);
        DUE.is("GROWTH of the last", x.ground(11, 1), 11);
        DUE.is("no bog 12", x.ground(12, 0), -1);
    }

    private static void test() {
        BogForge x = new BogForge();
        x.bog(0, 0, 0);
        x.bog(0, 0, 0);
        span("at first", x, 0, 0, 1_000);
        DUE.yes("test(0, 0, 1000)", x.test(0, 0, 1_000));
        DUE.no("no such bog", x.test(2, 0, 10));
        DUE.no("bog -1", x.test(-1, 0, 10));
        DUE.no("a -1", x.test(0, -1, 10));
        DUE.no("b 1001", x.test(0, 0, 1_001));
        DUE.no("a 1001", x.test(0, 1_001, 1_001));
        DUE.no("b below a", x.test(0, 10, 9));
        DUE.no("b least int", x.test(0, 0, Integer.MIN_VALUE));
        span("after refusals", x, 0, 0, 1_000);
        DUE.yes("test(0, 300, 500)", x.test(0, 300, 500));
        DUE.yes("upper narrower", x.test(0, 100, 450));
        span("upper narrower", x, 0, 300, 450);
        DUE.yes("lower narrower", x.test(0, 350, 900));
        span("lower narrower", x, 0, 350, 450);
        DUE.no("nothing in common above", x.test(0, 451, 1_000));
        DUE.no("nothing in common below", x.test(0, 0, 349));
        span("nothing in common", x, 0, 350, 450);
        DUE.yes("wider changes nothing", x.test(0, 0, 1_000));
        span("wider", x, 0, 350, 450);
        DUE.yes("one in common", x.test(0, 450, 700));
        span("one in common", x, 0, 450, 450);
        DUE.yes("one in common from below", x.test(0, 0, 450));
        span("other bog", x, 1, 0, 1_000);
        DUE.yes("a is b", x.test(1, 1_000, 1_000));
        span("a is b", x, 1, 1_000, 1_000);
    }

    private static void span(String when, BogForge x, int bog, int lower, int upper) {
        DUE.is(when + ": lower", x.ground(bog, 3), lower);
        DUE.is(when + ": upper", x.ground(bog, 4), upper);
    }

    private static void dig() {
        BogForge x = new BogForge();
        x.bog(100, 0, 5);
        x.bog(40, 0, 0);
        DUE.is("dig nothing", x.dig(0, 0), -1);
        DUE.is("dig less than nothing", x.dig(0, -1), -1);
        DUE.is("dig more than ORE", x.dig(0, 101), -1);
        DUE.is("no such bog", x.dig(2, 1), -1);
        DUE.is("bog -1", x.dig(-1, 1), -1);
        DUE.is("never dug", x.ground(0, 5), -1);
        DUE.is("dig 1", x.dig(0, 1), 1);
        DUE.is("dig again in the year", x.dig(0, 98), 99);
        DUE.is("ORE left", x.ground(0, 0), 1);
        DUE.is("more than left", x.dig(0, 2), -1);
        DUE.is("all that is left", x.dig(0, 1), 100);
        DUE.is("of nothing", x.dig(0, 1), -1);
        DUE.is("the whole of another", x.dig(1, 40), 40);
        DUE.is("YARD of the first", x.ground(0, 6), 100);
        DUE.is("dug in", x.ground(0, 5), 0);
    }

    private static void rest() {
        BogForge x = new BogForge();
        x.bog(100, 0, 0);
        x.bog(100, 0, 1);
        x.bog(100, 0, 3);
        for (int i = 0; i < 3; i++) {
            x.dig(i, 10);
        }
        x.year();
        DUE.is("REST 0 after 1", x.dig(0, 1), 11);
        DUE.is("REST 1 after 1", x.dig(1, 1), 11);
        DUE.is("REST 3 after 1", x.dig(2, 1), -1);
        DUE.is("refused: dug in", x.ground(2, 5), 0);
        DUE.is("refused: ORE", x.ground(2, 0), 90);
        x.year();
        DUE.is("REST 3 after 2", x.dig(2, 1), -1);
        x.year();
        DUE.is("REST 3 after 3", x.dig(2, 1), 11);
        DUE.is("REST 3 in the same year", x.dig(2, 1), 12);
        DUE.is("dug in", x.ground(2, 5), 3);
        x.year();
        DUE.is("it rests from the last digging", x.dig(2, 1), -1);
        for (int i = 0; i < 6; i++) {
            x.year();
        }
        DUE.is("long after", x.dig(2, 1), 13);
        DUE.is("a bog made late was never dug", x.bog(10, 0, 20), 3);
        DUE.is("so it is dug", x.dig(3, 5), 5);
    }

    private static void coal() {
        BogForge x = new BogForge();
        DUE.is("burner -1", x.coal(-1, 1), -1);
        DUE.is("burner 8", x.coal(8, 1), -1);
        DUE.is("nothing", x.coal(0, 0), -1);
        DUE.is("less than nothing", x.coal(0, -5), -1);
        DUE.is("10,001", x.coal(0, 10_001), -1);
        DUE.is("greatest int", x.coal(0, Integer.MAX_VALUE), -1);
        DUE.is("1", x.coal(7, 1), 1);
        DUE.is("10,000 more", x.coal(7, 10_000), 10_001);
        DUE.is("another burner", x.coal(0, 10_000), 10_000);
        DUE.is("COAL in the YARD", x.count(8), 20_001);
        for (int i = 2; i <= 100; i++) {
            DUE.is("coal", x.coal(0, 10_000), 10_000 * i);
        }
        DUE.is("above 1,000,000", x.coal(0, 1), -1);
        DUE.is("much above", x.coal(0, 10_000), -1);
        DUE.is("another has room", x.coal(1, 10_000), 10_000);
        x.charge(0, 5_000);
        DUE.is("the YARD after charging", x.count(8), 1_015_001);
    }

    private static void yearGrows() {
        BogForge x = new BogForge();
        x.bog(99_990, 7, 0);
        x.bog(0, 5_000, 0);
        x.bog(50, 0, 0);
        DUE.is("year 1", x.year(), 1);
        DUE.is("grown", x.ground(0, 0), 99_997);
        DUE.is("year 2", x.year(), 2);
        DUE.is("at most 100,000", x.ground(0, 0), 100_000);
        DUE.is("from nothing", x.ground(1, 0), 10_000);
        DUE.is("without GROWTH", x.ground(2, 0), 50);
        for (int i = 3; i <= 100; i++) {
            DUE.is("year", x.year(), i);
        }
        x.dig(1, 100);
        DUE.is("after 100", x.year(), -1);
        DUE.is("NOW stays", x.count(0), 100);
        DUE.is("nothing grows then", x.ground(1, 0), 99_900);
    }

    private static void yearIsRefused() {
        BogForge x = new BogForge();
        x.bog(1_000, 10, 0);
        x.dig(0, 100);
        x.coal(0, 1_000);
        x.charge(0, 30);
        DUE.is("COAL not burnt", x.year(), -1);
        DUE.is("nothing grew", x.ground(0, 0), 900);
        Kit.rules(x, "m=0:9");
        x.blow(3);
        DUE.is("COAL not burnt, in part", x.year(), -1);
        x.blow(1);
        DUE.is("all COAL burnt, no BLOOM, though hot", x.furnace(0) > 0 ? x.year() : -7, 1);
        x.charge(1, 0);
        DUE.is("ORE", x.year(), -1);
        x.charge(0, 120);
        x.blow(40);
        DUE.is("no ORE now", x.furnace(3), 0);
        DUE.is("no COAL now", x.furnace(4), 0);
        DUE.is("but a BLOOM", x.furnace(5), 1);
        DUE.is("BLOOM", x.year(), -1);
        x.draw();
        DUE.is("drawn", x.year(), 2);
    }

    private static void ground() {
        BogForge x = new BogForge();
        x.bog(700, 30, 4);
        x.test(0, 20, 90);
        x.year();
        x.dig(0, 100);
        int[] due = {630, 30, 4, 20, 90, 1, 100};
        for (int what = 0; what < due.length; what++) {
            DUE.is("ground(0, " + what + ")", x.ground(0, what), due[what]);
        }
        int[] others = {-1, 7, Integer.MIN_VALUE, Integer.MAX_VALUE};
        for (int other : others) {
            DUE.is("ground(0, " + other + ")", x.ground(0, other), -1);
        }
        DUE.is("ground(1, 6)", x.ground(1, 6), -1);
        DUE.is("ground(-1, 0)", x.ground(-1, 0), -1);
        x.coal(0, 10);
        x.charge(40, 0);
        DUE.is("the YARD after charging", x.ground(0, 6), 60);
    }
}
