/** Promises 15 and 17 to 20: drawing, forging, and what led to a bar. */
public final class BarTest {
    private static final Due DUE = new Due("BarTest");

    public static void main(String[] args) {
        draw();
        drawnFurnaceIsEmpty();
        hundredBars();
        ironBySpans();
        coalByBurners();
        sortByScorch();
        forge();
        forgeSorts();
        bar();
        partAndBurnt();
        DUE.finish();
    }

    private static void draw() {
        BogForge x = Kit.works();
        DUE.is("without anything", x.draw(), -1);
        x.charge(10, 100);
        DUE.is("without a BLOOM", x.draw(), -1);
        DUE.is("ORE stays", x.furnace(3), 10);
        DUE.is("none is gone", x.count(9), 0);
        Kit.rules(x, Kit.FULL);
        x.blow(10);
        DUE.is("not hot enough yet", x.draw(), -1);
        DUE.is("HEAT stays", x.furnace(0), 929);
        x.blow(1);
        DUE.is("the first", x.draw(), 0);
        DUE.is("BARS", x.count(2), 1);
        DUE.is("ORE gone", x.count(9), 7);
        DUE.is("at once again", x.draw(), -1);
        DUE.is("the second", Kit.cleanBar(x, 5), 1);
        DUE.is("none gone then", x.count(9), 7);
    }

    private static void drawnFurnaceIsEmpty() {
        BogForge x = Kit.works();
        x.water(5);
        x.gap(7);
        Kit.rules(x, "m=0:9;c<100:8");
        x.charge(100, 200);
        x.blow(40);
        DUE.yes("a bar", x.draw() == 0);
        DUE.is("the YARD gets nothing back: ORE", x.ground(0, 6), 49_900);
        DUE.is("the YARD gets nothing back: COAL", x.count(8), 9_800);
        x.blow(1);
        DUE.is("the rules stay", x.furnace(2), 9);
        x.charge(0, 200);
        x.blow(1);
        DUE.is("WATER stays", x.furnace(4), 195);
        x.blow(5);
        DUE.is("GAP stays: not read yet", x.furnace(1), 0);
        x.blow(1);
        DUE.yes("GAP stays: read", x.furnace(1) > 0);
        BogForge z = new BogForge();
        z.bog(100, 0, 0);
        z.bog(100, 0, 0);
        z.coal(0, 1_000);
        Kit.rules(z, Kit.FULL);
        for (int bog = 0; bog < 2; bog++) {
            z.dig(bog, 50);
            z.charge(50, 99);
            z.blow(11);
            z.draw();
        }
        DUE.is("ORE that is gone comes to no later bar", z.part(1, 0), 0);
        DUE.is("but what was charged since", z.part(1, 1), 3);
    }

    private static void hundredBars() {
        BogForge x = Kit.works();
        x.coal(0, 10_000);
        Kit.rules(x, Kit.FULL);
        for (int i = 0; i < 100; i++) {
            x.charge(1, 99);
            x.blow(11);
            DUE.is("bar", x.draw(), i);
        }
        x.charge(2, 99);
        x.blow(11);
        DUE.is("there are 100", x.draw(), -1);
        DUE.is("the BLOOM stays", x.furnace(5), 2);
        DUE.is("BARS", x.count(2), 100);
        DUE.is("the last", x.bar(99, 5), 1);
        DUE.is("none after it", x.bar(100, 5), -1);
        x.order(0, 0);
        DUE.is("met by the lowest of 100", x.met(0), 0);
    }

    private static void ironBySpans() {
        BogForge x = new BogForge();
        x.bog(100, 0, 0);
        x.bog(100, 0, 0);
        x.dig(0, 100);
        x.dig(1, 50);
        x.coal(0, 10_000);
        x.test(0, 333, 667);
        x.test(1, 101, 999);
        DUE.is("bar", Kit.cleanBar(x, 6), 0);
        DUE.is("4 of bog 0", x.part(0, 0), 4);
        DUE.is("2 of bog 1", x.part(0, 1), 2);
        DUE.is("1534 by 1000, cut", x.bar(0, 0), 1);
        DUE.is("4666 by 1000, up", x.bar(0, 1), 5);
        x.test(0, 500, 500);
        DUE.is("later tests leave it: least", x.bar(0, 0), 1);
        DUE.is("later tests leave it: greatest", x.bar(0, 1), 5);
        x.test(1, 500, 500);
        x.charge(6, 200);
        Kit.rules(x, Kit.STEADY);
        x.blow(13);
        DUE.is("bar", x.draw(), 1);
        DUE.is("3000 by 1000, not cut", x.bar(1, 0), 3);
        DUE.is("3000 by 1000, not up", x.bar(1, 1), 3);
        BogForge z = Kit.works();
        z.test(0, 0, 1);
        Kit.cleanBar(z, 1);
        DUE.is("1 by 1000, up", z.bar(0, 1), 1);
        BogForge y = Kit.works();
        Kit.cleanBar(y, 9);
        DUE.is("SPAN at first: least", y.bar(0, 0), 0);
        DUE.is("SPAN at first: greatest", y.bar(0, 1), 9);
        y.charge(9, 500);
        y.test(0, 0, 111);
        y.blow(14);
        y.test(0, 111, 111);
        DUE.is("bar", y.draw(), 1);
        DUE.is("the SPAN as it is at drawing: 999, cut", y.bar(1, 0), 0);
        DUE.is("the SPAN as it is at drawing: 999, up", y.bar(1, 1), 1);
    }

    private static void coalByBurners() {
        BogForge x = new BogForge();
        x.bog(100, 0, 0);
        x.dig(0, 100);
        x.coal(1, 70);
        x.coal(4, 30);
        x.charge(10, 100);
        Kit.rules(x, Kit.FULL);
        x.blow(5);
        x.coal(7, 101);
        x.charge(0, 101);
        x.blow(6);
        DUE.is("bar", x.draw(), 0);
        // 99 burnt of 70, 30, 101 (201): 34 rest 96, 14 rest 156, 49 rest 150: two are left, for burners 4 and 7.
        int[] due = {0, 34, 0, 0, 15, 0, 0, 50};
        for (int i = 0; i < due.length; i++) {
            DUE.is("burnt(0, " + i + ")", x.burnt(0, i), due[i]);
        }
        DUE.is("COAL in all", x.bar(0, 6), 99);
        x.coal(0, 200);
        x.charge(3, 99);
        x.blow(11);
        x.draw();
        DUE.is("the next has its own COAL", x.burnt(1, 0), 99);
        DUE.is("and none of the first's", x.burnt(1, 1), 0);
        BogForge y = Kit.works();
        y.charge(0, 50);
        Kit.rules(y, Kit.FULL);
        y.blow(6);
        y.year();
        y.coal(3, 10_000);
        y.charge(2, 150);
        y.blow(11);
        y.draw();
        DUE.is("what burnt in another YEAR is in it", y.bar(0, 6), 50 + 99);
    }

    private static void sortByScorch() {
        int[] scorch = {0, 1, 2, 9, 10, 11, 12, 40};
        int[] sorts = {0, 1, 1, 1, 1, 2, 2, 2};
        for (int i = 0; i < scorch.length; i++) {
            BogForge x = Kit.works();
            DUE.is("bar", Kit.scorchedBar(x, 12, scorch[i]), 0);
            DUE.is("SORT by SCORCH " + scorch[i], x.bar(0, 2), sorts[i]);
        }
    }

    private static void forge() {
        BogForge x = Kit.works();
        Kit.pureIron(x, 0);
        Kit.cleanBar(x, 1_000);
        DUE.is("no such bar", x.forge(1, 1), -1);
        DUE.is("bar -1", x.forge(-1, 1), -1);
        DUE.is("no HEATS", x.forge(0, 0), -1);
        DUE.is("HEATS -1", x.forge(0, -1), -1);
        DUE.is("HEATS 10", x.forge(0, 10), -1);
        DUE.is("HEATS greatest", x.forge(0, Integer.MAX_VALUE), -1);
        DUE.is("least", x.bar(0, 0), 1_000);
        DUE.is("greatest", x.bar(0, 1), 1_000);
        int[] least = {970, 940, 911, 883, 856, 830, 805, 780, 756};
        int[] greatest = {990, 981, 972, 963, 954, 945, 936, 927, 918};
        for (int i = 0; i < 9; i++) {
            DUE.is("SORT", x.forge(0, 1), 0);
            DUE.is("least after " + i, x.bar(0, 0), least[i]);
            DUE.is("greatest after " + i, x.bar(0, 1), greatest[i]);
            DUE.is("HEATS", x.bar(0, 3), i + 1);
        }
        DUE.is("a tenth", x.forge(0, 1), -1);
        DUE.is("least stays", x.bar(0, 0), 756);
        Kit.cleanBar(x, 1_000);
        DUE.is("nine at once", x.forge(1, 9), 0);
        DUE.is("least is as by ones", x.bar(1, 0), 756);
        DUE.is("greatest is as by ones", x.bar(1, 1), 918);
        Kit.cleanBar(x, 1);
        x.forge(2, 1);
        DUE.is("least of 1", x.bar(2, 0), 0);
        DUE.is("greatest of 1", x.bar(2, 1), 1);
        DUE.is("8 more", x.forge(2, 8), 0);
        Kit.cleanBar(x, 3);
        x.forge(3, 4);
        DUE.is("more than 9 in all", x.forge(3, 6), -1);
        DUE.is("HEATS stay", x.bar(3, 3), 4);
        DUE.is("just 9 in all", x.forge(3, 5), 0);
        Kit.cleanBar(x, 99);
        x.forge(4, 1);
        DUE.is("96.03, cut", x.bar(4, 0), 96);
        DUE.is("98.01, up", x.bar(4, 1), 99);
    }

    private static void forgeSorts() {
        BogForge x = Kit.works();
        Kit.scorchedBar(x, 12, 20);
        DUE.is("SORT drawn", x.bar(0, 2), 2);
        int[] due = {2, 1, 1, 0, 0, 0, 0, 0, 0};
        for (int want : due) {
            DUE.is("SORT then", x.forge(0, 1), want);
            DUE.is("SORT asked", x.bar(0, 2), want);
        }
        Kit.scorchedBar(x, 12, 5);
        DUE.is("from 1 by 1", x.forge(1, 1), 1);
        DUE.is("by 2", x.forge(1, 1), 0);
        DUE.is("by 9", x.forge(1, 7), 0);
        Kit.scorchedBar(x, 12, 20);
        DUE.is("from 2 by 3 at once", x.forge(2, 3), 1);
        DUE.is("and 1 more", x.forge(2, 1), 0);
    }

    private static void bar() {
        BogForge x = Kit.works();
        x.year();
        x.year();
        x.test(0, 500, 750);
        x.coal(3, 10_000);
        Kit.scorchedBar(x, 12, 3);
        x.forge(0, 1);
        x.year();
        int[] due = {5, 9, 1, 1, 2, 12, 153};
        for (int what = 0; what < due.length; what++) {
            DUE.is("bar(0, " + what + ")", x.bar(0, what), due[what]);
        }
        int[] others = {-1, 7, Integer.MIN_VALUE, Integer.MAX_VALUE};
        for (int other : others) {
            DUE.is("bar(0, " + other + ")", x.bar(0, other), -1);
            DUE.is("bar(" + other + ", 0)", x.bar(other, 0), -1);
        }
        DUE.is("bar(1, 0)", x.bar(1, 0), -1);
    }

    private static void partAndBurnt() {
        BogForge x = new BogForge();
        for (int i = 0; i < 12; i++) {
            x.bog(10, 0, 0);
            x.dig(i, i % 3 == 0 ? 4 : i == 11 ? 2 : 1);
        }
        for (int i = 0; i < 8; i++) {
            x.coal(i, 100 + i);
        }
        Kit.rules(x, Kit.STEADY);
        x.charge(25, 800);
        x.blow(25);
        DUE.is("all reduced", x.furnace(3), 0);
        x.draw();
        int burnt = x.bar(0, 6);
        for (int i = 0; i < 12; i++) {
            DUE.is("part(0, " + i + ")", x.part(0, i), i % 3 == 0 ? 4 : i == 11 ? 2 : 1);
        }
        for (int i = 0; i < 8; i++) {
            burnt -= x.burnt(0, i);
        }
        DUE.is("COAL of all burners", burnt, 0);
        int[] others = {-1, 12, Integer.MIN_VALUE, Integer.MAX_VALUE};
        for (int other : others) {
            DUE.is("part(0, " + other + ")", x.part(0, other), 0);
            DUE.is("part(" + other + ", 0)", x.part(other, 0), 0);
            DUE.is("burnt(0, " + other + ")", x.burnt(0, other), 0);
            DUE.is("burnt(" + other + ", 0)", x.burnt(other, 0), 0);
        }
        DUE.is("burnt(0, 8)", x.burnt(0, 8), 0);
        DUE.is("part(1, 0)", x.part(1, 0), 0);
        DUE.is("burnt(1, 0)", x.burnt(1, 0), 0);
    }
}
