/** Each sentence on YEARS, BOGS, digging and COAL that names a boundary: promises 2 to 6 and 30. */
public final class EdgeGroundTest {
    private static final Due DUE = new Due("EdgeGroundTest");
    private static final int LEAST = Integer.MIN_VALUE;
    private static final int GREATEST = Integer.MAX_VALUE;

    public static void main(String[] args) {
        nowAtFirst();
        hundredYears();
        twelveBogs();
        oreOfABog();
        growthOfABog();
        restOfABog();
        spanAtFirst();
        testedBounds();
        testOfNoBog();
        testUpsideDown();
        nothingInCommon();
        whatBothHaveInCommon();
        growthAtMost();
        growthOfFullBog();
        dugNever();
        dugInThisYear();
        restYearsAgoOrMore();
        restsFromTheLastDigging();
        digInNoBog();
        digFromOneToAll();
        digInAnEmptyBog();
        yardOfABog();
        burners();
        coalAtOnce();
        coalInTheYard();
        yearWithOre();
        yearWithCoal();
        yearWithBloom();
        yearOfAHotFurnace();
        refusedYear();
        groundDugLast();
        groundOfOthers();
        groundOfNoBog();
        DUE.finish();
    }

    private static BogForge oneBog(int ore, int growth, int rest) {
        BogForge x = new BogForge();
        x.bog(ore, growth, rest);
        return x;
    }

    private static void years(BogForge x, int n) {
        for (int i = 0; i < n; i++) {
            x.year();
        }
    }

    private static void nowAtFirst() {
        DUE.sentence("NOW is 0 at first");
        BogForge x = new BogForge();
        DUE.is("count(0)", x.count(0), 0);
        DUE.is("the first year()", x.year(), 1);
        DUE.is("count(0)", x.count(0), 1);
    }

    private static void hundredYears() {
        DUE.sentence("NOW is 100 at most; year, NONE: it is 100");
        BogForge x = oneBog(0, 1, 0);
        years(x, 98);
        DUE.is("year() in 98", x.year(), 99);
        DUE.is("year() in 99", x.year(), 100);
        DUE.is("year() in 100", x.year(), -1);
        DUE.is("year() again", x.year(), -1);
        DUE.is("NOW", x.count(0), 100);
        DUE.is("grown a hundred times", x.ground(0, 0), 100);
        DUE.is("digging in 100", x.dig(0, 1), 1);
    }

    private static void twelveBogs() {
        DUE.sentence("BOGS (12 at most); bog, NONE: there are twelve");
        BogForge x = new BogForge();
        for (int i = 0; i < 11; i++) {
            x.bog(10 + i, 0, 0);
        }
        DUE.is("the twelfth", x.bog(33, 2, 1), 11);
        DUE.is("the thirteenth", x.bog(44, 3, 0), -1);
        DUE.is("another", x.bog(0, 0, 0), -1);
        DUE.is("BOGS", x.count(1), 12);
        DUE.is("the twelfth's ORE", x.ground(11, 0), 33);
        DUE.is("digging in the twelfth", x.dig(11, 33), 33);
        DUE.yes("a test of the twelfth", x.test(11, 5, 6));
        x.year();
        DUE.is("the twelfth grows", x.ground(11, 0), 2);
        DUE.is("there is no thirteenth", x.ground(12, 0), -1);
        DUE.is("nor digging in it", x.dig(12, 1), -1);
    }

    private static void oreOfABog() {
        DUE.sentence("ORE (kilograms, 0 .. 100,000); bog, NONE: out of bounds");
        BogForge x = new BogForge();
        DUE.is("-1", x.bog(-1, 0, 0), -1);
        DUE.is("100,001", x.bog(100_001, 0, 0), -1);
        DUE.is("least", x.bog(LEAST, 0, 0), -1);
        DUE.is("greatest", x.bog(GREATEST, 0, 0), -1);
        DUE.is("BOGS", x.count(1), 0);
        DUE.is("0", x.bog(0, 0, 0), 0);
        DUE.is("100,000", x.bog(100_000, 0, 0), 1);
        DUE.is("ORE of 0", x.ground(0, 0), 0);
        DUE.is("ORE of 100,000", x.ground(1, 0), 100_000);
    }

    private static void growthOfABog() {
        DUE.sentence("GROWTH (0 .. 5,000 a YEAR); bog, NONE: out of bounds");
        BogForge x = new BogForge();
        DUE.is("-1", x.bog(1, -1, 0), -1);
        DUE.is("5,001", x.bog(1, 5_001, 0), -1);
        DUE.is("least", x.bog(1, LEAST, 0), -1);
        DUE.is("greatest", x.bog(1, GREATEST, 0), -1);
        DUE.is("BOGS", x.count(1), 0);
        DUE.is("0", x.bog(1, 0, 0), 0);
        DUE.is("5,000", x.bog(1, 5_000, 0), 1);
        x.year();
        DUE.is("ORE by 0 more", x.ground(0, 0), 1);
        DUE.is("ORE by 5,000 more", x.ground(1, 0), 5_001);
    }

    private static void restOfABog() {
        DUE.sentence("REST (0 .. 20 YEARS); bog, NONE: out of bounds");
        BogForge x = new BogForge();
        DUE.is("-1", x.bog(1, 0, -1), -1);
        DUE.is("21", x.bog(1, 0, 21), -1);
        DUE.is("least", x.bog(1, 0, LEAST), -1);
        DUE.is("greatest", x.bog(1, 0, GREATEST), -1);
        DUE.is("BOGS", x.count(1), 0);
        DUE.is("0", x.bog(1, 0, 0), 0);
        DUE.is("20", x.bog(1, 0, 20), 1);
        DUE.is("REST of 0", x.ground(0, 2), 0);
        DUE.is("REST of 20", x.ground(1, 2), 20);
    }

    private static void span(String when, BogForge x, int lower, int upper) {
        DUE.is(when + ": lower end", x.ground(0, 3), lower);
        DUE.is(when + ": upper end", x.ground(0, 4), upper);
    }

    private static void spanAtFirst() {
        DUE.sentence("a SPAN of iron (thousandths; 0 .. 1,000 at first)");
        BogForge x = oneBog(0, 0, 0);
        span("at first", x, 0, 1_000);
        DUE.yes("a test that tells nothing", x.test(0, 0, 1_000));
        span("after it", x, 0, 1_000);
    }

    private static void testedBounds() {
        DUE.sentence("A test of a BOG (0 .. 1,000 both). False: out of bounds");
        BogForge x = oneBog(0, 0, 0);
        DUE.no("a -1", x.test(0, -1, 1_000));
        DUE.no("both -1", x.test(0, -1, -1));
        DUE.no("b 1,001", x.test(0, 0, 1_001));
        DUE.no("both 1,001", x.test(0, 1_001, 1_001));
        DUE.no("least and greatest", x.test(0, LEAST, GREATEST));
        DUE.no("a least", x.test(0, LEAST, 500));
        DUE.no("b greatest", x.test(0, 500, GREATEST));
        span("refused", x, 0, 1_000);
        DUE.yes("both 0", x.test(0, 0, 0));
        span("both 0", x, 0, 0);
        BogForge y = oneBog(0, 0, 0);
        DUE.yes("both 1,000", y.test(0, 1_000, 1_000));
        span("both 1,000", y, 1_000, 1_000);
    }

    private static void testOfNoBog() {
        DUE.sentence("test, False: no such BOG");
        BogForge x = new BogForge();
        DUE.no("without bogs", x.test(0, 0, 1_000));
        x.bog(0, 0, 0);
        DUE.no("-1", x.test(-1, 0, 1_000));
        DUE.no("1 of one", x.test(1, 0, 1_000));
        DUE.no("12", x.test(12, 0, 1_000));
        DUE.no("least", x.test(LEAST, 0, 1_000));
        DUE.no("greatest", x.test(GREATEST, 0, 1_000));
        DUE.yes("0 of one", x.test(0, 0, 1_000));
    }

    private static void testUpsideDown() {
        DUE.sentence("test, False: b below a");
        BogForge x = oneBog(0, 0, 0);
        DUE.no("b one below a", x.test(0, 500, 499));
        DUE.no("b 0, a 1,000", x.test(0, 1_000, 0));
        span("refused", x, 0, 1_000);
        DUE.yes("b is a", x.test(0, 500, 500));
    }

    private static void nothingInCommon() {
        DUE.sentence("test, False: nothing in common");
        BogForge x = oneBog(0, 0, 0);
        x.test(0, 400, 600);
        DUE.no("just above", x.test(0, 601, 1_000));
        DUE.no("just below", x.test(0, 0, 399));
        DUE.no("one above", x.test(0, 601, 601));
        DUE.no("one below", x.test(0, 399, 399));
        span("refused", x, 400, 600);
    }

    private static void whatBothHaveInCommon() {
        DUE.sentence("the SPAN becomes what both have in common");
        int[][] told = {{0, 400}, {600, 1_000}, {400, 400}, {600, 600}, {400, 600}, {401, 599}, {0, 1_000},
            {399, 601}, {0, 401}, {599, 1_000}};
        int[][] due = {{400, 400}, {600, 600}, {400, 400}, {600, 600}, {400, 600}, {401, 599}, {400, 600},
            {400, 600}, {400, 401}, {599, 600}};
        for (int i = 0; i < told.length; i++) {
            BogForge x = oneBog(0, 0, 0);
            x.test(0, 400, 600);
            DUE.yes(told[i][0] + " .. " + told[i][1], x.test(0, told[i][0], told[i][1]));
            span(told[i][0] + " .. " + told[i][1], x, due[i][0], due[i][1]);
        }
    }

    private static void growthAtMost() {
        DUE.sentence("As a YEAR ends ORE of each BOG is more by GROWTH, at most 100,000");
        BogForge x = new BogForge();
        x.bog(94_999, 5_000, 0);
        x.bog(95_000, 5_000, 0);
        x.bog(95_001, 5_000, 0);
        x.bog(0, 5_000, 0);
        x.year();
        DUE.is("up to 99,999", x.ground(0, 0), 99_999);
        DUE.is("up to 100,000", x.ground(1, 0), 100_000);
        DUE.is("cut at 100,000", x.ground(2, 0), 100_000);
        DUE.is("from 0", x.ground(3, 0), 5_000);
    }

    private static void growthOfFullBog() {
        DUE.sentence("at most 100,000: a full BOG");
        BogForge x = new BogForge();
        x.bog(100_000, 5_000, 0);
        x.bog(100_000, 1, 0);
        x.bog(100_000, 0, 0);
        x.year();
        for (int i = 0; i < 3; i++) {
            DUE.is("full bog " + i, x.ground(i, 0), 100_000);
        }
        x.dig(0, 5_001);
        x.year();
        DUE.is("dug: grows again", x.ground(0, 0), 99_999);
    }

    private static void dugNever() {
        DUE.sentence("Digging is allowed in a BOG in which it was dug never");
        BogForge x = oneBog(10, 0, 20);
        DUE.is("in YEAR 0", x.dig(0, 1), 1);
        x.bog(10, 0, 20);
        years(x, 19);
        DUE.is("never dug, in YEAR 19", x.dig(1, 1), 1);
        x.bog(10, 0, 20);
        DUE.is("made in YEAR 19", x.dig(2, 1), 1);
        DUE.is("while the first rests", x.dig(0, 1), -1);
    }

    private static void dugInThisYear() {
        DUE.sentence("or in this YEAR");
        BogForge x = oneBog(10, 0, 20);
        DUE.is("once", x.dig(0, 1), 1);
        DUE.is("twice", x.dig(0, 1), 2);
        DUE.is("and the rest", x.dig(0, 8), 10);
        BogForge y = oneBog(10, 0, 1);
        years(y, 100);
        DUE.is("once in YEAR 100", y.dig(0, 1), 1);
        DUE.is("twice in YEAR 100", y.dig(0, 1), 2);
    }

    private static void restYearsAgoOrMore() {
        DUE.sentence("or REST YEARS ago or more; dig, NONE: it rests");
        for (int rest = 0; rest <= 20; rest++) {
            BogForge x = oneBog(10, 0, rest);
            x.dig(0, 1);
            for (int ago = 1; ago < rest; ago++) {
                x.year();
                DUE.is("REST " + rest + ", dug " + ago + " ago", x.dig(0, 1), -1);
            }
            x.year();
            DUE.is("REST " + rest + ", dug so long ago", x.dig(0, 1), 2);
        }
        BogForge y = oneBog(10, 0, 20);
        y.dig(0, 1);
        years(y, 21);
        DUE.is("one YEAR more than REST", y.dig(0, 1), 2);
        BogForge z = oneBog(10, 0, 20);
        z.dig(0, 1);
        years(z, 100);
        DUE.is("a hundred YEARS", z.dig(0, 1), 2);
    }

    private static void restsFromTheLastDigging() {
        DUE.sentence("dig, NONE: it rests, though it was asked for meanwhile");
        BogForge x = oneBog(10, 0, 3);
        x.dig(0, 1);
        years(x, 2);
        DUE.is("it rests", x.dig(0, 1), -1);
        DUE.is("ORE", x.ground(0, 0), 9);
        DUE.is("dug last", x.ground(0, 5), 0);
        DUE.is("the YARD", x.ground(0, 6), 1);
        x.year();
        DUE.is("refused digging is none", x.dig(0, 1), 2);
        years(x, 2);
        DUE.is("it rests from the second", x.dig(0, 1), -1);
        x.year();
        DUE.is("three YEARS from the second", x.dig(0, 1), 3);
    }

    private static void digInNoBog() {
        DUE.sentence("dig, NONE: no such BOG");
        BogForge x = new BogForge();
        DUE.is("without bogs", x.dig(0, 1), -1);
        x.bog(10, 0, 0);
        DUE.is("-1", x.dig(-1, 1), -1);
        DUE.is("1 of one", x.dig(1, 1), -1);
        DUE.is("12", x.dig(12, 1), -1);
        DUE.is("least", x.dig(LEAST, 1), -1);
        DUE.is("greatest", x.dig(GREATEST, 1), -1);
        DUE.is("0 of one", x.dig(0, 1), 1);
    }

    private static void digFromOneToAll() {
        DUE.sentence("dig, NONE: kilograms not 1 .. ORE");
        BogForge x = oneBog(50, 0, 0);
        DUE.is("0", x.dig(0, 0), -1);
        DUE.is("-1", x.dig(0, -1), -1);
        DUE.is("least", x.dig(0, LEAST), -1);
        DUE.is("51 of 50", x.dig(0, 51), -1);
        DUE.is("greatest", x.dig(0, GREATEST), -1);
        DUE.is("not dug: ORE", x.ground(0, 0), 50);
        DUE.is("not dug: YEAR", x.ground(0, 5), -1);
        DUE.is("not dug: the YARD", x.ground(0, 6), 0);
        DUE.is("1", x.dig(0, 1), 1);
        DUE.is("49 of 49", x.dig(0, 49), 50);
        DUE.is("ORE", x.ground(0, 0), 0);
        BogForge y = oneBog(100_000, 0, 0);
        DUE.is("100,000 at once", y.dig(0, 100_000), 100_000);
    }

    private static void digInAnEmptyBog() {
        DUE.sentence("dig, NONE: kilograms not 1 .. ORE, and ORE is 0");
        BogForge x = oneBog(0, 1, 0);
        DUE.is("0 of 0", x.dig(0, 0), -1);
        DUE.is("1 of 0", x.dig(0, 1), -1);
        x.year();
        DUE.is("1 of 1", x.dig(0, 1), 1);
        DUE.is("1 of 0 again", x.dig(0, 1), -1);
    }

    private static void yardOfABog() {
        DUE.sentence("dig: what the YARD has of it then");
        BogForge x = oneBog(100_000, 5_000, 0);
        x.bog(100, 0, 0);
        DUE.is("all of the first", x.dig(0, 100_000), 100_000);
        DUE.is("the second by itself", x.dig(1, 3), 3);
        x.year();
        DUE.is("above 100,000", x.dig(0, 5_000), 105_000);
        x.charge(5_000, 0);
        DUE.is("less what was charged", x.dig(1, 1), 4);
        DUE.is("ground", x.ground(0, 6), 100_000);
    }

    private static void burners() {
        DUE.sentence("COAL comes from BURNERS 0 .. 7; coal, NONE: no such");
        BogForge x = new BogForge();
        DUE.is("-1", x.coal(-1, 1), -1);
        DUE.is("8", x.coal(8, 1), -1);
        DUE.is("least", x.coal(LEAST, 1), -1);
        DUE.is("greatest", x.coal(GREATEST, 1), -1);
        DUE.is("COAL in the YARD", x.count(8), 0);
        for (int burner = 0; burner < 8; burner++) {
            DUE.is("burner " + burner, x.coal(burner, 1 + burner), 1 + burner);
        }
        DUE.is("COAL in the YARD", x.count(8), 36);
    }

    private static void coalAtOnce() {
        DUE.sentence("COAL of a BURNER (1 .. 10,000); coal, NONE: out of bounds");
        BogForge x = new BogForge();
        DUE.is("0", x.coal(0, 0), -1);
        DUE.is("-1", x.coal(0, -1), -1);
        DUE.is("10,001", x.coal(0, 10_001), -1);
        DUE.is("least", x.coal(0, LEAST), -1);
        DUE.is("greatest", x.coal(0, GREATEST), -1);
        DUE.is("COAL in the YARD", x.count(8), 0);
        DUE.is("1", x.coal(0, 1), 1);
        DUE.is("10,000", x.coal(0, 10_000), 10_001);
        DUE.is("-1 of some", x.coal(0, -1), -1);
        DUE.is("0 of some", x.coal(0, 0), -1);
    }

    private static void coalInTheYard() {
        DUE.sentence("coal, NONE: above 1,000,000 then");
        BogForge x = new BogForge();
        for (int i = 0; i < 99; i++) {
            x.coal(3, 10_000);
        }
        DUE.is("999,999", x.coal(3, 9_999), 999_999);
        DUE.is("1,000,001", x.coal(3, 2), -1);
        DUE.is("much above", x.coal(3, 10_000), -1);
        DUE.is("greatest wraps around", x.coal(3, GREATEST), -1);
        DUE.is("1,000,000", x.coal(3, 1), 1_000_000);
        DUE.is("one more", x.coal(3, 1), -1);
        DUE.is("COAL in the YARD", x.count(8), 1_000_000);
        DUE.is("another burner's", x.coal(4, 10_000), 10_000);
        x.charge(0, 101);
        // 101 of 1,000,000 and 10,000: 100 of burner 3, 1 of burner 4.
        DUE.is("101 more after 100 went", x.coal(3, 101), -1);
        DUE.is("100 more", x.coal(3, 100), 1_000_000);
    }

    private static void yearWithOre() {
        DUE.sentence("year, NONE: THE FURNACE has ORE");
        BogForge x = oneBog(10, 0, 0);
        x.dig(0, 10);
        DUE.is("ORE in the YARD alone", x.year(), 1);
        x.charge(1, 0);
        DUE.is("one kilogram", x.year(), -1);
        DUE.is("NOW", x.count(0), 1);
    }

    private static void yearWithCoal() {
        DUE.sentence("year, NONE: COAL not burnt");
        BogForge x = new BogForge();
        x.coal(0, 10);
        DUE.is("COAL in the YARD alone", x.year(), 1);
        x.charge(0, 1);
        DUE.is("one kilogram", x.year(), -1);
        Kit.rules(x, "m=0:1");
        x.blow(1);
        DUE.is("burnt", x.year(), 2);
    }

    private static void yearWithBloom() {
        DUE.sentence("year, NONE: or a BLOOM");
        BogForge x = Kit.works();
        Kit.rules(x, Kit.FULL);
        x.charge(1, 99);
        x.blow(11);
        DUE.is("no ORE", x.furnace(3), 0);
        DUE.is("no COAL", x.furnace(4), 0);
        DUE.is("one kilogram of BLOOM", x.furnace(5), 1);
        DUE.is("refused", x.year(), -1);
        x.draw();
        DUE.is("drawn", x.year(), 1);
    }

    private static void yearOfAHotFurnace() {
        DUE.sentence("year, NONE for no more than that: HEAT and MINUTES are neither");
        BogForge x = Kit.works();
        Kit.rules(x, Kit.FULL);
        x.charge(0, 99);
        x.blow(11);
        DUE.is("hot", x.furnace(0), 1_010);
        DUE.is("year()", x.year(), 1);
        DUE.is("HEAT stays", x.furnace(0), 1_010);
        DUE.is("MINUTES stay", x.furnace(6), 11);
    }

    private static void refusedYear() {
        DUE.sentence("year, NONE: nothing ends then");
        BogForge x = oneBog(10, 5, 1);
        x.dig(0, 5);
        x.charge(5, 0);
        DUE.is("refused", x.year(), -1);
        DUE.is("NOW", x.count(0), 0);
        DUE.is("ORE", x.ground(0, 0), 5);
        DUE.is("still this YEAR", x.dig(0, 1), 1);
    }

    private static void groundDugLast() {
        DUE.sentence("ground, 5: the YEAR in which it was dug last (NONE)");
        BogForge x = oneBog(10, 0, 0);
        DUE.is("never", x.ground(0, 5), -1);
        x.year();
        DUE.is("never yet", x.ground(0, 5), -1);
        x.dig(0, 1);
        DUE.is("in 1", x.ground(0, 5), 1);
        years(x, 99);
        DUE.is("still 1", x.ground(0, 5), 1);
        x.dig(0, 1);
        DUE.is("in 100", x.ground(0, 5), 100);
        BogForge y = oneBog(10, 0, 0);
        y.dig(0, 1);
        DUE.is("in 0, which is not NONE", y.ground(0, 5), 0);
    }

    private static void groundOfOthers() {
        DUE.sentence("ground, NONE for others: what");
        BogForge x = oneBog(10, 20, 3);
        for (int what : new int[] {-1, 7, 8, LEAST, GREATEST}) {
            DUE.is("ground(0, " + what + ")", x.ground(0, what), -1);
        }
        DUE.is("the first what", x.ground(0, 0), 10);
        DUE.is("the last what", x.ground(0, 6), 0);
    }

    private static void groundOfNoBog() {
        DUE.sentence("ground, NONE for others: BOGS");
        BogForge x = new BogForge();
        DUE.is("without bogs", x.ground(0, 6), -1);
        x.bog(10, 0, 0);
        for (int bog : new int[] {-1, 1, 11, 12, LEAST, GREATEST}) {
            for (int what = 0; what <= 6; what++) {
                DUE.is("ground(" + bog + ", " + what + ")", x.ground(bog, what), -1);
            }
        }
        DUE.is("the one", x.ground(0, 0), 10);
    }
}
