/** Each sentence on BARS and FORGING that names a boundary: promises 15 and 17 to 20. */
public final class EdgeBarTest {
    private static final Due DUE = new Due("EdgeBarTest");
    private static final int LEAST = Integer.MIN_VALUE;
    private static final int GREATEST = Integer.MAX_VALUE;

    public static void main(String[] args) {
        noBloom();
        refusedDrawLeavesAll();
        bloomOfOneKilogram();
        thereAreHundred();
        whatElseIsGone();
        nothingElseIsGone();
        oreOfABarByBogs();
        coalOfABarByBurners();
        coalOfABarAllBurnt();
        coalOfTheNextBar();
        leastIsCut();
        greatestGoesUp();
        spansAtTheirEnds();
        spanAsItIsThen();
        sortWithoutScorch();
        sortUpToTen();
        sortElse();
        scorchOfTheNextBar();
        forgeNoBar();
        forgeHeats();
        forgeNineInAll();
        forgeWrapsAround();
        refusedForge();
        leastByForging();
        greatestByForging();
        nineHeats();
        sortOneLessForTwo();
        sortAtLeastZero();
        barOfOthers();
        barOfNoBar();
        yearOfABar();
        partOfOthers();
        burntOfOthers();
        DUE.finish();
    }

    /** A works of pure iron with one clean bar of each of these kilograms of ORE. */
    private static BogForge pureBars(int... ore) {
        BogForge x = Kit.works();
        Kit.pureIron(x, 0);
        for (int kilograms : ore) {
            Kit.cleanBar(x, kilograms);
        }
        return x;
    }

    private static void noBloom() {
        DUE.sentence("draw, NONE: no BLOOM");
        BogForge x = Kit.works();
        DUE.is("an empty furnace", x.draw(), -1);
        x.charge(10, 200);
        DUE.is("ORE and COAL alone", x.draw(), -1);
        Kit.rules(x, Kit.FULL);
        x.blow(10);
        DUE.is("929 is too cold", x.draw(), -1);
        DUE.is("BARS", x.count(2), 0);
        x.blow(1);
        DUE.is("a BLOOM", x.draw(), 0);
        DUE.is("it was taken", x.draw(), -1);
        DUE.is("BARS", x.count(2), 1);
    }

    private static void refusedDrawLeavesAll() {
        DUE.sentence("draw, NONE, and THE FURNACE keeps what it has");
        BogForge x = Kit.works();
        Kit.rules(x, Kit.FULL);
        x.charge(10, 200);
        x.blow(10);
        x.draw();
        int[] due = {929, 846, 9, 10, 110, 0, 10, 0, -1};
        for (int what = 0; what < due.length; what++) {
            DUE.is("furnace(" + what + ")", x.furnace(what), due[what]);
        }
        DUE.is("ORE gone", x.count(9), 0);
        x.blow(1);
        x.draw();
        DUE.is("all that burnt", x.burnt(0, 0), 99);
    }

    private static void bloomOfOneKilogram() {
        DUE.sentence("drawing one takes the BLOOM (not empty): one kilogram");
        BogForge x = Kit.works();
        Kit.rules(x, Kit.FULL);
        x.charge(1, 99);
        x.blow(11);
        DUE.is("draw()", x.draw(), 0);
        DUE.is("ORE", x.bar(0, 5), 1);
        DUE.is("least of 0 .. 1,000 thousandths", x.bar(0, 0), 0);
        DUE.is("greatest", x.bar(0, 1), 1);
    }

    private static void thereAreHundred() {
        DUE.sentence("draw, NONE: there are 100");
        BogForge x = Kit.works();
        x.coal(0, 10_000);
        Kit.pureIron(x, 0);
        Kit.rules(x, Kit.FULL);
        for (int i = 0; i < 100; i++) {
            x.charge(i == 99 ? 3 : 1, 99);
            x.blow(11);
            DUE.is("draw()", x.draw(), i);
        }
        x.charge(7, 99);
        x.blow(11);
        DUE.is("the 101st", x.draw(), -1);
        DUE.is("BARS", x.count(2), 100);
        DUE.is("the BLOOM stays", x.furnace(5), 3);
        DUE.is("ORE stays", x.furnace(3), 4);
        DUE.is("ORE gone", x.count(9), 0);
        DUE.is("HEAT stays", x.blow(0), 1_010);
        DUE.is("the hundredth", x.bar(99, 5), 3);
        DUE.is("its part", x.part(99, 0), 3);
        DUE.is("its COAL", x.burnt(99, 0), 99);
        DUE.is("it is forged", x.forge(99, 1), 0);
        DUE.is("and paid for", x.pay(99, 5), 0);
        x.order(0, 2);
        DUE.is("and meets an ORDER", x.met(0), 99);
        DUE.is("want()", x.want(), 0);
        DUE.is("there is no 100", x.bar(100, 5), -1);
        DUE.is("nor forging it", x.forge(100, 1), -1);
        DUE.is("nor PAY for it", x.pay(100, 5), -1);
    }

    private static void whatElseIsGone() {
        DUE.sentence("What else is in THE FURNACE is gone");
        BogForge x = new BogForge();
        x.bog(100, 0, 0);
        x.bog(100, 0, 0);
        x.coal(0, 1_000);
        x.coal(1, 1_000);
        Kit.rules(x, Kit.FULL);
        for (int i = 0; i < 2; i++) {
            x.dig(i, 50);
            x.charge(40, i == 0 ? 500 : 99);
            x.blow(11);
            DUE.is("draw()", x.draw(), i);
            DUE.is("ORE gone", x.count(9), 37 * (i + 1));
            DUE.is("ORE", x.furnace(3), 0);
            DUE.is("COAL", x.furnace(4), 0);
        }
        DUE.is("not back in the YARD: ORE of bog 0", x.ground(0, 6), 3);
        DUE.is("not back in the YARD: ORE of bog 1", x.ground(1, 6), 17);
        DUE.is("not back in the YARD: COAL", x.count(8), 1_401);
        DUE.is("not in the next BAR: ORE of bog 0", x.part(1, 0), 1);
        DUE.is("not in the next BAR: ORE of bog 1", x.part(1, 1), 2);
        DUE.is("a YEAR ends", x.year(), 1);
    }

    private static void nothingElseIsGone() {
        DUE.sentence("What else is in THE FURNACE is gone: nothing");
        BogForge x = Kit.works();
        Kit.rules(x, Kit.FULL);
        x.charge(3, 99);
        x.blow(11);
        DUE.is("draw()", x.draw(), 0);
        DUE.is("ORE gone", x.count(9), 0);
        DUE.is("ORE of the BAR", x.bar(0, 5), 3);
        DUE.is("COAL of the BAR", x.bar(0, 6), 99);
    }

    private static void oreOfABarByBogs() {
        DUE.sentence("the BAR has its ORE by BOGS: of twelve");
        BogForge x = new BogForge();
        for (int i = 0; i < 12; i++) {
            x.bog(100, 0, 0);
            x.dig(i, i == 5 ? 50 : i + 1);
        }
        x.coal(0, 1_000);
        x.charge(122, 1_000);
        Kit.rules(x, Kit.STEADY);
        x.blow(60);
        DUE.is("all reduced", x.furnace(5), 122);
        x.draw();
        for (int i = 0; i < 12; i++) {
            DUE.is("part of bog " + i, x.part(0, i), i == 5 ? 50 : i + 1);
        }
        DUE.is("in all", x.bar(0, 5), 122);
    }

    private static void coalOfABarByBurners() {
        DUE.sentence("COAL (what was BURNT, PARTED by what BURNERS had charged)");
        BogForge x = new BogForge();
        x.bog(100, 0, 0);
        x.dig(0, 100);
        x.coal(0, 100);
        x.charge(1, 100);
        Kit.rules(x, Kit.FULL);
        x.blow(11);
        x.coal(7, 300);
        x.charge(0, 300);
        x.draw();
        // 99 of 100 and 300: 24 rest 300, 74 rest 100.
        DUE.is("burner 0", x.burnt(0, 0), 25);
        DUE.is("burner 7, charged as all had burnt", x.burnt(0, 7), 74);
        DUE.is("in all", x.bar(0, 6), 99);
        for (int burner = 1; burner < 7; burner++) {
            DUE.is("charged nothing: burner " + burner, x.burnt(0, burner), 0);
        }
    }

    private static void coalOfABarAllBurnt() {
        DUE.sentence("COAL (what was BURNT, PARTED ..): all that was charged");
        BogForge x = new BogForge();
        x.bog(100, 0, 0);
        x.dig(0, 100);
        for (int burner = 0; burner < 8; burner++) {
            x.coal(burner, 10 + burner);
        }
        x.charge(3, 108);
        Kit.rules(x, Kit.FULL);
        x.blow(12);
        DUE.is("none is left", x.furnace(4), 0);
        x.draw();
        for (int burner = 0; burner < 8; burner++) {
            DUE.is("burner " + burner, x.burnt(0, burner), 10 + burner);
        }
    }

    private static void coalOfTheNextBar() {
        DUE.sentence("What else is in THE FURNACE is gone: what was BURNT and charged, too");
        BogForge x = new BogForge();
        x.bog(100, 0, 0);
        x.dig(0, 100);
        Kit.rules(x, Kit.FULL);
        for (int i = 0; i < 2; i++) {
            x.coal(i, 200);
            x.charge(3, 200);
            x.blow(11);
            x.draw();
            DUE.is("in all", x.bar(i, 6), 99);
            DUE.is("its own burner", x.burnt(i, i), 99);
            DUE.is("the other", x.burnt(i, 1 - i), 0);
        }
    }

    private static void irons(int ore, int a, int b, int least, int greatest) {
        BogForge x = Kit.works();
        x.test(0, a, b);
        Kit.cleanBar(x, ore);
        DUE.is("least of " + ore + " by " + a, x.bar(0, 0), least);
        DUE.is("greatest of " + ore + " by " + b, x.bar(0, 1), greatest);
    }

    private static void leastIsCut() {
        DUE.sentence("iron from least (the sum of ORE times the SPAN's lower end, by 1,000, cut)");
        irons(1, 999, 1_000, 0, 1);
        irons(1, 1_000, 1_000, 1, 1);
        irons(3, 333, 1_000, 0, 3);
        irons(3, 334, 1_000, 1, 3);
        irons(2, 500, 1_000, 1, 2);
        irons(9, 222, 1_000, 1, 9);
        irons(9, 223, 1_000, 2, 9);
        irons(4, 0, 1_000, 0, 4);
    }

    private static void greatestGoesUp() {
        DUE.sentence("to greatest (by the upper ends, up)");
        irons(1, 0, 1, 0, 1);
        irons(1, 0, 0, 0, 0);
        irons(3, 0, 333, 0, 1);
        irons(3, 0, 334, 0, 2);
        irons(2, 0, 500, 0, 1);
        irons(9, 0, 222, 0, 2);
        irons(9, 0, 223, 0, 3);
        irons(1_000, 0, 1_000, 0, 1_000);
        irons(1_000, 0, 1, 0, 1);
    }

    private static void spansAtTheirEnds() {
        DUE.sentence("the sum of ORE times the SPAN's ends: cut and up once, not for each BOG");
        BogForge x = new BogForge();
        for (int i = 0; i < 2; i++) {
            x.bog(100, 0, 0);
            x.dig(i, 3);
            x.test(i, 500, 500);
        }
        x.coal(0, 1_000);
        x.charge(6, 200);
        Kit.rules(x, Kit.FULL);
        x.blow(13);
        x.draw();
        DUE.is("three and three by a half: least", x.bar(0, 0), 3);
        DUE.is("three and three by a half: greatest", x.bar(0, 1), 3);
    }

    private static void spanAsItIsThen() {
        DUE.sentence("the SPAN's lower end, as it is then");
        BogForge x = Kit.works();
        Kit.rules(x, Kit.FULL);
        x.charge(6, 200);
        x.blow(13);
        x.test(0, 500, 700);
        x.draw();
        DUE.is("told just ahead: least", x.bar(0, 0), 3);
        DUE.is("told just ahead: greatest", x.bar(0, 1), 5);
        x.test(0, 700, 700);
        DUE.is("told just after: least", x.bar(0, 0), 3);
        DUE.is("told just after: greatest", x.bar(0, 1), 5);
        x.forge(0, 1);
        DUE.is("told just after, forged: least", x.bar(0, 0), 2);
        DUE.is("told just after, forged: greatest", x.bar(0, 1), 5);
    }

    private static void sortOf(int scorch, int sort) {
        BogForge x = Kit.works();
        Kit.rules(x, Kit.FULL);
        x.charge(12, 9 * (14 + scorch));
        x.blow(14 + scorch);
        DUE.is("SCORCH", x.furnace(7), scorch);
        x.draw();
        DUE.is("SORT by SCORCH " + scorch, x.bar(0, 2), sort);
    }

    private static void sortWithoutScorch() {
        DUE.sentence("SORT 0 without SCORCH");
        sortOf(0, 0);
    }

    private static void sortUpToTen() {
        DUE.sentence("1 up to 10 MINUTES");
        sortOf(1, 1);
        sortOf(2, 1);
        sortOf(9, 1);
        sortOf(10, 1);
    }

    private static void sortElse() {
        DUE.sentence("else 2");
        sortOf(11, 2);
        sortOf(12, 2);
        sortOf(200, 2);
    }

    private static void scorchOfTheNextBar() {
        DUE.sentence("SORT 0 without SCORCH, though the BAR before had some");
        BogForge x = Kit.works();
        Kit.scorchedBar(x, 12, 20);
        Kit.scorchedBar(x, 12, 0);
        Kit.scorchedBar(x, 12, 1);
        DUE.is("the first", x.bar(0, 2), 2);
        DUE.is("the second", x.bar(1, 2), 0);
        DUE.is("the third", x.bar(2, 2), 1);
    }

    private static void forgeNoBar() {
        DUE.sentence("forge, NONE: no such BAR");
        BogForge x = new BogForge();
        DUE.is("without bars", x.forge(0, 1), -1);
        x = pureBars(3);
        for (int bar : new int[] {-1, 1, 99, 100, LEAST, GREATEST}) {
            DUE.is("forge(" + bar + ", 1)", x.forge(bar, 1), -1);
        }
        DUE.is("HEATS of the one", x.bar(0, 3), 0);
        DUE.is("forge(0, 1)", x.forge(0, 1), 0);
    }

    private static void forgeHeats() {
        DUE.sentence("FORGING n HEATS (1 .. 9); forge, NONE: HEATS");
        BogForge x = pureBars(100, 100, 100);
        for (int heats : new int[] {0, -1, 10, LEAST, GREATEST}) {
            DUE.is("forge(0, " + heats + ")", x.forge(0, heats), -1);
        }
        DUE.is("HEATS", x.bar(0, 3), 0);
        DUE.is("least", x.bar(0, 0), 100);
        DUE.is("greatest", x.bar(0, 1), 100);
        DUE.is("one", x.forge(1, 1), 0);
        DUE.is("one: HEATS", x.bar(1, 3), 1);
        DUE.is("nine", x.forge(2, 9), 0);
        DUE.is("nine: HEATS", x.bar(2, 3), 9);
    }

    private static void forgeNineInAll() {
        DUE.sentence("forge, NONE: more than 9 in all");
        BogForge x = pureBars(100, 100);
        x.forge(0, 9);
        DUE.is("9 and 1", x.forge(0, 1), -1);
        DUE.is("9 and 9", x.forge(0, 9), -1);
        DUE.is("HEATS", x.bar(0, 3), 9);
        x.forge(1, 1);
        DUE.is("1 and 9", x.forge(1, 9), -1);
        DUE.is("1 and 7", x.forge(1, 7), 0);
        DUE.is("8 and 2", x.forge(1, 2), -1);
        DUE.is("8 and 1", x.forge(1, 1), 0);
        DUE.is("HEATS", x.bar(1, 3), 9);
    }

    private static void forgeWrapsAround() {
        DUE.sentence("forge, NONE: HEATS in all that wrap around");
        BogForge x = pureBars(100);
        x.forge(0, 5);
        DUE.is("5 and greatest", x.forge(0, GREATEST), -1);
        DUE.is("5 and least", x.forge(0, LEAST), -1);
        DUE.is("5 and -5", x.forge(0, -5), -1);
        DUE.is("5 and 0", x.forge(0, 0), -1);
        DUE.is("HEATS", x.bar(0, 3), 5);
    }

    private static void refusedForge() {
        DUE.sentence("forge, NONE, and no HEAT is made");
        BogForge x = pureBars(100);
        x.forge(0, 5);
        DUE.is("least", x.bar(0, 0), 85);
        DUE.is("greatest", x.bar(0, 1), 99);
        x.forge(0, 5);
        DUE.is("least", x.bar(0, 0), 85);
        DUE.is("greatest", x.bar(0, 1), 99);
        DUE.is("HEATS", x.bar(0, 3), 5);
    }

    private static void leastByForging() {
        DUE.sentence("each makes least 97 hundredths of it, cut");
        int[] ore = {1, 2, 33, 34, 99, 100, 101, 200};
        int[] due = {0, 1, 32, 32, 96, 97, 97, 194};
        BogForge x = pureBars(ore);
        for (int i = 0; i < ore.length; i++) {
            x.forge(i, 1);
            DUE.is("97 hundredths of " + ore[i], x.bar(i, 0), due[i]);
        }
        BogForge y = Kit.works();
        Kit.cleanBar(y, 5);
        y.forge(0, 1);
        DUE.is("97 hundredths of 0", y.bar(0, 0), 0);
    }

    private static void greatestByForging() {
        DUE.sentence("greatest 99, up");
        int[] ore = {1, 2, 33, 99, 100, 101, 199, 200};
        int[] due = {1, 2, 33, 99, 99, 100, 198, 198};
        BogForge x = pureBars(ore);
        for (int i = 0; i < ore.length; i++) {
            x.forge(i, 1);
            DUE.is("99 hundredths of " + ore[i], x.bar(i, 1), due[i]);
        }
        BogForge y = Kit.works();
        y.test(0, 0, 0);
        Kit.cleanBar(y, 5);
        y.forge(0, 9);
        DUE.is("99 hundredths of 0", y.bar(0, 1), 0);
    }

    private static void nineHeats() {
        DUE.sentence("each makes: nine at once are nine by ones");
        BogForge x = pureBars(777, 777);
        x.forge(0, 9);
        int least = 777;
        int greatest = 777;
        for (int i = 0; i < 9; i++) {
            x.forge(1, 1);
            least = least * 97 / 100;
            greatest = (greatest * 99 + 99) / 100;
            DUE.is("least by ones", x.bar(1, 0), least);
            DUE.is("greatest by ones", x.bar(1, 1), greatest);
        }
        DUE.is("least at once", x.bar(0, 0), least);
        DUE.is("greatest at once", x.bar(0, 1), greatest);
    }

    private static void sortOneLessForTwo() {
        DUE.sentence("SORT is one less for each two HEATS in all, from what it was as it was drawn");
        BogForge x = Kit.works();
        Kit.scorchedBar(x, 12, 11);
        int[] due = {2, 1, 1, 0};
        for (int heats = 1; heats <= 4; heats++) {
            DUE.is("SORT 2 by " + heats, x.forge(0, 1), due[heats - 1]);
            DUE.is("bar(0, 2)", x.bar(0, 2), due[heats - 1]);
        }
        for (int heats = 1; heats <= 4; heats++) {
            Kit.scorchedBar(x, 12, 11);
            DUE.is("SORT 2 by " + heats + " at once", x.forge(heats, heats), due[heats - 1]);
        }
        Kit.scorchedBar(x, 12, 1);
        DUE.is("SORT 1 by 1", x.forge(5, 1), 1);
        DUE.is("SORT 1 by 2", x.forge(5, 1), 0);
    }

    private static void sortAtLeastZero() {
        DUE.sentence("(0 at least)");
        int[] scorch = {0, 1, 11};
        for (int sort = 0; sort < 3; sort++) {
            BogForge x = Kit.works();
            Kit.scorchedBar(x, 12, scorch[sort]);
            DUE.is("SORT " + sort + " by 5", x.forge(0, 5), 0);
            DUE.is("SORT " + sort + " by 9", x.forge(0, 4), 0);
            DUE.is("bar(0, 2)", x.bar(0, 2), 0);
        }
    }

    private static void barOfOthers() {
        DUE.sentence("bar, NONE for others: what");
        BogForge x = pureBars(100);
        for (int what : new int[] {-1, 7, 8, LEAST, GREATEST}) {
            DUE.is("bar(0, " + what + ")", x.bar(0, what), -1);
        }
        DUE.is("the first what", x.bar(0, 0), 100);
        DUE.yes("the last what", x.bar(0, 6) > 0);
    }

    private static void barOfNoBar() {
        DUE.sentence("bar, NONE for others: BARS");
        BogForge x = new BogForge();
        DUE.is("without bars", x.bar(0, 2), -1);
        x = pureBars(100);
        for (int bar : new int[] {-1, 1, 99, 100, LEAST, GREATEST}) {
            for (int what = 0; what <= 6; what++) {
                DUE.is("bar(" + bar + ", " + what + ")", x.bar(bar, what), -1);
            }
        }
    }

    private static void yearOfABar() {
        DUE.sentence("bar, 4: the YEAR in which it was drawn");
        BogForge x = Kit.works();
        Kit.cleanBar(x, 3);
        for (int i = 0; i < 100; i++) {
            x.blow(200);
            x.year();
            if (i == 0) {
                Kit.cleanBar(x, 3);
            }
        }
        Kit.cleanBar(x, 3);
        DUE.is("in 0", x.bar(0, 4), 0);
        DUE.is("in 1", x.bar(1, 4), 1);
        DUE.is("in 100", x.bar(2, 4), 100);
    }

    private static void partOfOthers() {
        DUE.sentence("part: 0 for others");
        BogForge x = new BogForge();
        DUE.is("without bars and bogs", x.part(0, 0), 0);
        x = pureBars(5);
        for (int other : new int[] {-1, 1, 11, 12, 100, LEAST, GREATEST}) {
            DUE.is("part(0, " + other + ")", x.part(0, other), 0);
            DUE.is("part(" + other + ", 0)", x.part(other, 0), 0);
        }
        x.bog(10, 0, 0);
        DUE.is("a BOG made later", x.part(0, 1), 0);
        DUE.is("part(0, 0)", x.part(0, 0), 5);
    }

    private static void burntOfOthers() {
        DUE.sentence("burnt: 0 for others");
        BogForge x = new BogForge();
        DUE.is("without bars", x.burnt(0, 0), 0);
        x = Kit.works();
        Kit.scorchedBar(x, 5, 1);
        for (int other : new int[] {-1, 1, 7, 8, 100, LEAST, GREATEST}) {
            DUE.is("burnt(0, " + other + ")", x.burnt(0, other), 0);
            DUE.is("burnt(" + other + ", 0)", x.burnt(other, 0), 0);
        }
        DUE.is("burnt(0, 0)", x.burnt(0, 0), 135);
    }
}
