/** Each sentence on THE FURNACE, its charging and its MINUTES that names a boundary: promises 7, 8, 13, 14 and 16. */
public final class EdgeFurnaceTest {
    private static final Due DUE = new Due("EdgeFurnaceTest");
    private static final int LEAST = Integer.MIN_VALUE;
    private static final int GREATEST = Integer.MAX_VALUE;
    /** HEAT after so many MINUTES in which nine kilograms burn. */
    private static final int[] FULL_HEAT = {0, 104, 205, 304, 400, 494, 585, 674, 761, 846, 929, 1_010, 1_089, 1_166,
        1_241, 1_314, 1_385, 1_454, 1_521, 1_587, 1_651, 1_714, 1_775, 1_834, 1_892, 1_948, 2_003, 2_057, 2_109,
        2_160, 2_210};

    public static void main(String[] args) {
        allIsZeroAtFirst();
        allIsZeroAsABarWasDrawn();
        waterAtFirst();
        waterInBounds();
        refusedWater();
        waterIsNotOfTheFurnace();
        gapAtFirst();
        gapInBounds();
        refusedGap();
        gapIsNotOfTheFurnace();
        minuteZeroIsRead();
        longestGap();
        gapToldLater();
        seenIsReadBeforeTheRules();
        equalLessMore();
        firstThatHolds();
        noneHolds();
        atMostWater();
        whatIsLeftOfCoal();
        noCoal();
        coldAtLeastZero();
        fortiethsAreCut();
        heatOf999();
        heatOf1000();
        heatOf1300();
        heatOf1301();
        someCoalBurnt();
        noCoalBurnt();
        whatIsLeftOfOre();
        noOre();
        scorchWithoutBurning();
        scorchOfOneMinute();
        reducedOrePartedByBogs();
        chargeInBounds();
        chargeNotBothZero();
        chargeOfOneAlone();
        chargeOfMoreThanTheYard();
        refusedChargeTakesNothing();
        chargeWrapsAround();
        chargeAgainAndAgain();
        partCutAndRests();
        partAlikeRests();
        partAmongOneAndAll();
        blowInBounds();
        blowNone();
        blowUpTo20000();
        furnaceOfOthers();
        firstScorchIsNone();
        DUE.finish();
    }

    /** One MINUTE for each digit, in which so many kilograms of COAL burn if there are so many. */
    private static BogForge minutes(BogForge x, String digits) {
        for (int i = 0; i < digits.length(); i++) {
            x.water(digits.charAt(i) - '0');
            x.blow(1);
        }
        return x;
    }

    /** A works with AIR 9 from now on, so that WATER tells what burns. */
    private static BogForge blown(int ore, int coal) {
        BogForge x = Kit.works();
        Kit.rules(x, "m<20000:9");
        x.charge(ore, coal);
        return x;
    }

    private static BogForge yards(int[] ore, int[] coal) {
        BogForge x = new BogForge();
        for (int i = 0; i < ore.length; i++) {
            x.bog(100_000, 0, 0);
            x.dig(i, ore[i]);
        }
        for (int i = 0; i < coal.length; i++) {
            x.coal(i, coal[i]);
        }
        return x;
    }

    private static void allIsZeroAtFirst() {
        DUE.sentence("All is 0 at first");
        BogForge x = new BogForge();
        for (int what = 0; what <= 7; what++) {
            DUE.is("furnace(" + what + ")", x.furnace(what), 0);
        }
        DUE.is("furnace(8): there is none", x.furnace(8), -1);
    }

    private static void allIsZeroAsABarWasDrawn() {
        DUE.sentence("and as a bar was drawn");
        BogForge x = blown(50, 500);
        x.blow(20);
        for (int what = 0; what <= 8; what++) {
            DUE.yes("furnace(" + what + ") before", x.furnace(what) > 0);
        }
        x.draw();
        for (int what = 0; what <= 7; what++) {
            DUE.is("furnace(" + what + ")", x.furnace(what), 0);
        }
        DUE.is("furnace(8): there is none", x.furnace(8), -1);
        x.charge(0, 9);
        DUE.is("MINUTES and HEAT begin anew", x.blow(1), 104);
        Kit.rules(x, "m=1:3");
        x.blow(1);
        DUE.is("this was minute 1", x.furnace(2), 3);
        BogForge y = blown(50, 500);
        y.blow(20);
        y.draw();
        y.rules();
        y.charge(0, 9);
        y.blow(1);
        DUE.is("AIR is 0 if no rule tells it", y.furnace(2), 0);
        DUE.is("and nothing burns", y.furnace(4), 9);
    }

    private static void waterAtFirst() {
        DUE.sentence("WATER (9 at first)");
        BogForge x = blown(0, 100);
        x.blow(1);
        DUE.is("nine burn", x.furnace(4), 91);
    }

    private static void waterInBounds() {
        DUE.sentence("WATER (0 .. 9); water, False: out of bounds");
        BogForge x = blown(0, 100);
        for (int most : new int[] {-1, 10, 11, LEAST, GREATEST}) {
            DUE.no("water(" + most + ")", x.water(most));
        }
        int left = 100;
        for (int most = 0; most <= 9; most++) {
            DUE.yes("water(" + most + ")", x.water(most));
            x.blow(1);
            left -= most;
            DUE.is("so many burn", x.furnace(4), left);
        }
    }

    private static void refusedWater() {
        DUE.sentence("water, False: out of bounds, and WATER stays");
        BogForge x = blown(0, 100);
        x.water(4);
        for (int most : new int[] {-1, 10, LEAST, GREATEST}) {
            x.water(most);
        }
        x.blow(1);
        DUE.is("four burn", x.furnace(4), 96);
    }

    private static void waterIsNotOfTheFurnace() {
        DUE.sentence("WATER is told: it stays as a bar was drawn");
        BogForge x = blown(3, 500);
        x.blow(11);
        x.water(2);
        x.draw();
        x.charge(0, 100);
        x.blow(1);
        DUE.is("two burn", x.furnace(4), 98);
    }

    private static void gapAtFirst() {
        DUE.sentence("GAP (1 at first)");
        BogForge x = blown(0, 500);
        for (int minute = 0; minute < 6; minute++) {
            x.blow(1);
            DUE.is("read in minute " + minute, x.furnace(1), FULL_HEAT[minute]);
        }
    }

    private static void gapInBounds() {
        DUE.sentence("a GAP (1 .. 30); gap, False: out of bounds");
        for (int gap : new int[] {0, -1, 31, LEAST, GREATEST}) {
            DUE.no("gap(" + gap + ")", new BogForge().gap(gap));
        }
        for (int gap = 1; gap <= 30; gap++) {
            DUE.yes("gap(" + gap + ")", new BogForge().gap(gap));
        }
    }

    private static void refusedGap() {
        DUE.sentence("gap, False: out of bounds, and GAP stays");
        BogForge x = blown(0, 500);
        x.gap(4);
        for (int gap : new int[] {0, -1, 31, LEAST, GREATEST}) {
            x.gap(gap);
        }
        x.blow(4);
        DUE.is("read in minute 0 alone", x.furnace(1), 0);
        x.blow(1);
        DUE.is("read in minute 4", x.furnace(1), FULL_HEAT[4]);
    }

    private static void gapIsNotOfTheFurnace() {
        DUE.sentence("a GAP is told: it stays as a bar was drawn");
        BogForge x = blown(3, 500);
        x.blow(11);
        x.gap(3);
        x.draw();
        x.charge(0, 100);
        x.blow(3);
        DUE.is("not read in minutes 1 and 2", x.furnace(1), 0);
        x.blow(1);
        DUE.is("read in minute 3", x.furnace(1), FULL_HEAT[3]);
    }

    private static void minuteZeroIsRead() {
        DUE.sentence("if MINUTES can be divided by GAP: 0 can");
        BogForge x = blown(3, 500);
        x.gap(30);
        x.blow(11);
        x.draw();
        Kit.rules(x, "h=0:5;h>0:6");
        x.blow(1);
        DUE.is("SEEN is the HEAT of 0", x.furnace(2), 5);
    }

    private static void longestGap() {
        DUE.sentence("if MINUTES can be divided by GAP: 30");
        BogForge x = blown(0, 500);
        x.gap(30);
        x.blow(30);
        DUE.is("minutes 1 to 29 are not read", x.furnace(1), 0);
        x.blow(1);
        DUE.is("minute 30 is", x.furnace(1), FULL_HEAT[30]);
        x.blow(29);
        DUE.is("minute 59 is not", x.furnace(1), FULL_HEAT[30]);
    }

    private static void gapToldLater() {
        DUE.sentence("if MINUTES can be divided by GAP, as it is then");
        BogForge x = blown(0, 500);
        x.gap(2);
        x.blow(4);
        DUE.is("minute 2, not 3", x.furnace(1), FULL_HEAT[2]);
        x.gap(5);
        x.blow(1);
        DUE.is("minute 4 can't be divided by 5", x.furnace(1), FULL_HEAT[2]);
        x.blow(1);
        DUE.is("minute 5 can", x.furnace(1), FULL_HEAT[5]);
    }

    private static void seenIsReadBeforeTheRules() {
        DUE.sentence("(1) SEEN is HEAT. (2) Of the RULES");
        BogForge x = new BogForge();
        x.coal(0, 500);
        x.charge(0, 500);
        Kit.rules(x, "m=0:9;h=104:3;h=0:7");
        x.blow(2);
        DUE.is("the HEAT after minute 0 is read in minute 1", x.furnace(2), 3);
    }

    private static void equalLessMore() {
        DUE.sentence("one of = < >, a number: one less, just it, one more");
        for (int minute = 4; minute <= 6; minute++) {
            BogForge x = new BogForge();
            x.blow(minute);
            Kit.rules(x, "m=5:1;m<5:2;m>5:3");
            x.blow(1);
            DUE.is("m of " + minute + " by 5", x.furnace(2), minute == 5 ? 1 : minute < 5 ? 2 : 3);
        }
        for (int coal = 99; coal <= 101; coal++) {
            BogForge x = blown(coal, coal);
            Kit.rules(x, "c=100:1;c<100:2;c>100:3");
            x.blow(1);
            DUE.is("c of " + coal + " by 100", x.furnace(2), coal == 100 ? 1 : coal < 100 ? 2 : 3);
            BogForge y = blown(coal, coal);
            Kit.rules(y, "o=100:1;o<100:2;o>100:3");
            y.blow(1);
            DUE.is("o of " + coal + " by 100", y.furnace(2), coal == 100 ? 1 : coal < 100 ? 2 : 3);
        }
        BogForge z = blown(0, 500);
        z.blow(5);
        Kit.rules(z, "h=493:1;h<494:2;h>494:3;h=494:4");
        z.blow(1);
        DUE.is("h of 494", z.furnace(2), 4);
        BogForge none = new BogForge();
        Kit.rules(none, "c<0:1;o<0:2;h<0:3;m<0:4;c>0:5;o>0:6;h>0:7;m>0:8;c=0:9");
        none.blow(1);
        DUE.is("0 is neither less nor more than 0", none.furnace(2), 9);
    }

    private static void firstThatHolds() {
        DUE.sentence("Of the RULES the first that holds tells AIR");
        BogForge x = new BogForge();
        Kit.rules(x, "m=9:1;m=0:2;m=0:3;m<9:4");
        x.blow(1);
        DUE.is("the second of four", x.furnace(2), 2);
        x.blow(1);
        DUE.is("the last of four", x.furnace(2), 4);
        x.blow(8);
        DUE.is("the first of four", x.furnace(2), 1);
    }

    private static void noneHolds() {
        DUE.sentence("(else it stays as it was told)");
        BogForge x = Kit.works();
        x.charge(0, 100);
        Kit.rules(x, "m=1:5");
        x.blow(1);
        DUE.is("none told yet", x.furnace(2), 0);
        DUE.is("nothing burns", x.furnace(4), 100);
        x.blow(3);
        DUE.is("AIR stays", x.furnace(2), 5);
        DUE.is("and blows on", x.furnace(4), 85);
        x.rules();
        x.blow(1);
        DUE.is("without RULES, too", x.furnace(4), 80);
    }

    private static void atMostWater() {
        DUE.sentence("the bellows blow with AIR, at most WATER");
        BogForge x = Kit.works();
        x.charge(0, 100);
        Kit.rules(x, "m=0:5");
        x.water(4);
        x.blow(1);
        DUE.is("AIR 5, WATER 4", x.furnace(4), 96);
        DUE.is("AIR as it was told", x.furnace(2), 5);
        x.water(5);
        x.blow(1);
        DUE.is("AIR 5, WATER 5", x.furnace(4), 91);
        x.water(6);
        x.blow(1);
        DUE.is("AIR 5, WATER 6", x.furnace(4), 86);
        x.water(0);
        x.blow(1);
        DUE.is("AIR 5, WATER 0", x.furnace(4), 86);
        x.water(9);
        x.blow(1);
        DUE.is("AIR 5, WATER 9", x.furnace(4), 81);
    }

    private static void whatIsLeftOfCoal() {
        DUE.sentence("So many kilograms of COAL burn, or what is left");
        int[] left = {8, 9, 10};
        int[] heat = {8 * 12 - 2 - 2, 104, 104};
        for (int i = 0; i < 3; i++) {
            BogForge x = blown(0, left[i]);
            DUE.is("HEAT of " + left[i], x.blow(1), heat[i]);
            DUE.is("COAL of " + left[i], x.furnace(4), Math.max(0, left[i] - 9));
        }
        BogForge x = blown(0, 10);
        x.blow(1);
        DUE.is("104 and 12, less 2 and 2", x.blow(1), 112);
        DUE.is("COAL", x.furnace(4), 0);
    }

    private static void noCoal() {
        DUE.sentence("COAL burn, or what is left: 0");
        BogForge x = blown(5, 0);
        DUE.is("HEAT", x.blow(3), 0);
        DUE.is("COAL", x.furnace(4), 0);
        DUE.is("AIR", x.furnace(2), 9);
        DUE.is("MINUTES", x.furnace(6), 3);
    }

    private static void coldAtLeastZero() {
        DUE.sentence("HEAT ... at least 0");
        BogForge x = minutes(blown(0, 500), "4000000000000000000000");
        DUE.is("1", x.furnace(0), 1);
        DUE.is("1 less 2", minutes(x, "0").furnace(0), 0);
        DUE.is("0 less 2", minutes(x, "0").furnace(0), 0);
        x = minutes(blown(0, 500), "10000");
        DUE.is("2", x.furnace(0), 2);
        DUE.is("2 less 2", minutes(x, "0").furnace(0), 0);
        x = minutes(blown(0, 500), "400000000000000000000");
        DUE.is("3", x.furnace(0), 3);
        DUE.is("3 less 2", minutes(x, "0").furnace(0), 1);
        DUE.is("from 0 by one kilogram", minutes(blown(0, 1), "1").furnace(0), 10);
    }

    private static void fortiethsAreCut() {
        DUE.sentence("less by HEAT, as it is then, by 40 (cut) and 2");
        DUE.is("39: 0", minutes(blown(0, 500), "4000").furnace(0), 37);
        DUE.is("40: 1", minutes(blown(0, 500), "3100").furnace(0), 37);
        DUE.is("41: 1", minutes(blown(0, 500), "3010").furnace(0), 38);
        DUE.is("79: 1", minutes(blown(0, 500), "610010").furnace(0), 76);
        DUE.is("80: 2", minutes(blown(0, 500), "70").furnace(0), 76);
        DUE.is("119: 2", minutes(blown(0, 500), "9110").furnace(0), 115);
        DUE.is("120: 3", minutes(blown(0, 500), "6410").furnace(0), 115);
        DUE.is("of the HEAT with what burnt: 108", minutes(blown(0, 500), "9").furnace(0), 104);
    }

    /** HEAT comes to just this in the last MINUTE, the first in which something can be reduced. */
    private static void heatIn(String digits, int heat, int bloom, int scorch) {
        BogForge x = minutes(blown(0, 1_000), digits.substring(0, digits.length() - 1));
        x.charge(9, 0);
        minutes(x, digits.substring(digits.length() - 1));
        DUE.is("HEAT", x.furnace(0), heat);
        DUE.is("BLOOM", x.furnace(5), bloom);
        DUE.is("ORE not reduced", x.furnace(3), 9 - bloom);
        DUE.is("SCORCH", x.furnace(7), scorch);
        DUE.is("first MINUTE of it", x.furnace(8), scorch > 0 ? digits.length() - 1 : -1);
    }

    private static void heatOf999() {
        DUE.sentence("(4) If HEAT is 1,000 .. 1,300: 999");
        heatIn("99999899999", 999, 0, 0);
        heatIn("9999999398991", 999, 0, 0);
    }

    private static void heatOf1000() {
        DUE.sentence("(4) If HEAT is 1,000 .. 1,300: 1,000");
        heatIn("999999996589", 1_000, 3, 0);
        heatIn("9999994889991", 1_000, 3, 0);
    }

    private static void heatOf1300() {
        DUE.sentence("(4) If HEAT is 1,000 .. 1,300; (5) If HEAT is above 1,300: 1,300");
        heatIn("9999999999569989", 1_300, 3, 0);
        heatIn("9999999999569998", 1_300, 3, 0);
    }

    private static void heatOf1301() {
        DUE.sentence("(4) If HEAT is 1,000 .. 1,300; (5) If HEAT is above 1,300: 1,301");
        heatIn("9999999999299989", 1_301, 0, 1);
        heatIn("9999999999299998", 1_301, 0, 1);
    }

    private static void someCoalBurnt() {
        DUE.sentence("and some COAL burnt: one kilogram");
        BogForge x = minutes(blown(20, 500), "999999999999");
        DUE.is("six by nine kilograms each", x.furnace(5), 6);
        minutes(x, "1");
        DUE.is("three by one kilogram", x.furnace(0) == 1_072 ? x.furnace(5) : -7, 9);
        BogForge y = blown(9, 91);
        minutes(y, "99999999999");
        DUE.is("the last kilogram, of AIR 9", y.furnace(4), 0);
        DUE.is("is too cold", y.furnace(0), 916);
        DUE.is("BLOOM", y.furnace(5), 0);
        BogForge z = blown(9, 100);
        minutes(z, "999999999999");
        DUE.is("the hundredth kilogram", z.furnace(4), 0);
        DUE.is("HEAT", z.furnace(0), 995);
        DUE.is("BLOOM of one minute", z.furnace(5), 3);
    }

    private static void noCoalBurnt() {
        DUE.sentence("and some COAL burnt: none");
        BogForge y = minutes(blown(90, 500), "99999999999990");
        DUE.yes("HEAT", y.furnace(0) >= 1_000 && y.furnace(0) <= 1_300);
        DUE.is("WATER 0: three minutes reduced", y.furnace(5), 9);
        BogForge z = minutes(blown(90, 13 * 9), "99999999999999");
        DUE.yes("HEAT", z.furnace(0) >= 1_000 && z.furnace(0) <= 1_300);
        DUE.is("no COAL left: three minutes reduced", z.furnace(5), 9);
    }

    private static void whatIsLeftOfOre() {
        DUE.sentence("3 kilograms of ORE (or what is left) are reduced");
        for (int ore = 1; ore <= 4; ore++) {
            BogForge x = minutes(blown(ore, 500), "99999999999");
            DUE.is("BLOOM of " + ore, x.furnace(5), Math.min(3, ore));
            DUE.is("left of " + ore, x.furnace(3), Math.max(0, ore - 3));
            minutes(x, "9");
            DUE.is("BLOOM of " + ore + " then", x.furnace(5), ore);
            DUE.is("left of " + ore + " then", x.furnace(3), 0);
        }
    }

    private static void noOre() {
        DUE.sentence("3 kilograms of ORE (or what is left) are reduced: 0");
        BogForge x = minutes(blown(0, 500), "9999999999999");
        DUE.is("BLOOM", x.furnace(5), 0);
        DUE.is("ORE", x.furnace(3), 0);
        DUE.is("nothing to draw", x.draw(), -1);
        x.charge(1, 0);
        minutes(x, "9");
        DUE.is("ORE charged late", x.furnace(5), 1);
        minutes(x, "9");
        DUE.is("and no more of it", x.furnace(5), 1);
    }

    private static void scorchWithoutBurning() {
        DUE.sentence("(5) If HEAT is above 1,300: whether COAL burnt or not");
        BogForge x = minutes(blown(0, 500), "9999999999999999");
        DUE.is("1,314 and 1,385", x.furnace(7), 2);
        minutes(x, "0");
        DUE.is("1,349", x.furnace(0) == 1_349 ? x.furnace(7) : -7, 3);
        minutes(x, "0");
        DUE.is("1,314", x.furnace(0) == 1_314 ? x.furnace(7) : -7, 4);
        minutes(x, "0");
        DUE.is("1,280", x.furnace(0) == 1_280 ? x.furnace(7) : -7, 4);
        BogForge y = minutes(blown(0, 500), "99999979889999980");
        DUE.is("1,300 as it cools", y.furnace(0), 1_300);
        int scorch = y.furnace(7);
        BogForge z = minutes(blown(0, 500), "9999997988999998");
        DUE.is("is none of SCORCH", z.furnace(7), scorch);
        y = minutes(blown(0, 500), "99999949999999990");
        DUE.is("1,301 as it cools", y.furnace(0), 1_301);
        scorch = y.furnace(7);
        z = minutes(blown(0, 500), "9999994999999999");
        DUE.is("is one of SCORCH", z.furnace(7), scorch - 1);
    }

    private static void scorchOfOneMinute() {
        DUE.sentence("one MINUTE of SCORCH more; furnace, 8: by MINUTES ahead of it");
        BogForge x = minutes(blown(0, 500), "999999999999999");
        DUE.is("HEAT", x.furnace(0), 1_314);
        DUE.is("SCORCH", x.furnace(7), 1);
        DUE.is("fourteen ahead of it", x.furnace(8), 14);
        minutes(x, "00999");
        DUE.is("more of it", x.furnace(7), 4);
        DUE.is("the first stays", x.furnace(8), 14);
    }

    private static void reducedOrePartedByBogs() {
        DUE.sentence("ORE are reduced, PARTED by BOGS: of alike rests the lowest");
        BogForge x = yards(new int[] {2, 2, 2, 2, 2}, new int[] {1_000});
        Kit.rules(x, Kit.FULL);
        x.charge(10, 1_000);
        x.blow(11);
        x.draw();
        for (int i = 0; i < 5; i++) {
            DUE.is("of five alike: bog " + i, x.part(0, i), i < 3 ? 1 : 0);
        }
        BogForge y = yards(new int[] {1, 1, 1_000}, new int[] {1_000});
        Kit.rules(y, Kit.FULL);
        y.charge(1_002, 1_000);
        y.blow(11);
        y.draw();
        int[] due = {0, 0, 3};
        for (int i = 0; i < 3; i++) {
            DUE.is("too little for one: bog " + i, y.part(0, i), due[i]);
        }
        BogForge z = yards(new int[] {1, 0, 1}, new int[] {1_000});
        Kit.rules(z, Kit.FULL);
        z.charge(2, 1_000);
        z.blow(11);
        z.draw();
        int[] all = {1, 0, 1};
        for (int i = 0; i < 3; i++) {
            DUE.is("what is left is all: bog " + i, z.part(0, i), all[i]);
        }
    }

    private static void chargeInBounds() {
        DUE.sentence("Charging (each 0 .. 5,000). False: out of bounds");
        BogForge x = yards(new int[] {20_000}, new int[] {10_000, 10_000});
        DUE.no("ORE -1", x.charge(-1, 5));
        DUE.no("ORE 5,001", x.charge(5_001, 5));
        DUE.no("COAL -1", x.charge(5, -1));
        DUE.no("COAL 5,001", x.charge(5, 5_001));
        DUE.no("both -1", x.charge(-1, -1));
        DUE.no("both 5,001", x.charge(5_001, 5_001));
        DUE.is("ORE", x.furnace(3), 0);
        DUE.is("COAL", x.furnace(4), 0);
        DUE.yes("both 5,000", x.charge(5_000, 5_000));
        DUE.is("ORE", x.furnace(3), 5_000);
        DUE.is("COAL", x.furnace(4), 5_000);
        DUE.yes("both 1", x.charge(1, 1));
    }

    private static void chargeNotBothZero() {
        DUE.sentence("Charging (not both 0)");
        BogForge x = yards(new int[] {20}, new int[] {20});
        DUE.no("charge(0, 0)", x.charge(0, 0));
        DUE.no("of an empty YARD", new BogForge().charge(0, 0));
        DUE.yes("charge(1, 0)", x.charge(1, 0));
        DUE.yes("charge(0, 1)", x.charge(0, 1));
    }

    private static void chargeOfOneAlone() {
        DUE.sentence("Charging: 0 of a YARD that has none");
        BogForge x = yards(new int[] {20}, new int[0]);
        DUE.yes("ORE without COAL", x.charge(20, 0));
        DUE.is("ORE", x.furnace(3), 20);
        DUE.is("COAL", x.furnace(4), 0);
        DUE.is("the YARD's COAL", x.count(8), 0);
        for (int burner = 0; burner < 8; burner++) {
            DUE.is("the YARD's of burner " + burner, x.coal(burner, 1), 1);
        }
        BogForge y = new BogForge();
        y.bog(20, 0, 0);
        y.bog(20, 0, 0);
        y.coal(3, 20);
        DUE.yes("COAL without ORE", y.charge(0, 20));
        DUE.is("COAL", y.furnace(4), 20);
        DUE.is("ORE", y.furnace(3), 0);
        for (int bog = 0; bog < 2; bog++) {
            DUE.is("the YARD's of bog " + bog, y.ground(bog, 6), 0);
        }
        BogForge z = yards(new int[] {3, 3}, new int[] {99});
        z.charge(6, 0);
        z.charge(0, 99);
        Kit.rules(z, Kit.FULL);
        z.blow(11);
        z.draw();
        DUE.is("one after the other: ORE of bog 0", z.part(0, 0), 2);
        DUE.is("one after the other: ORE of bog 1", z.part(0, 1), 1);
        DUE.is("one after the other: COAL", z.burnt(0, 0), 99);
    }

    private static void chargeOfMoreThanTheYard() {
        DUE.sentence("charge, False: the YARD has not so much");
        BogForge x = new BogForge();
        DUE.no("ORE of an empty YARD", x.charge(1, 0));
        DUE.no("COAL of an empty YARD", x.charge(0, 1));
        x = yards(new int[] {3, 4}, new int[] {5, 0, 6});
        DUE.no("8 of 7 ORE", x.charge(8, 0));
        DUE.no("8 of 7 ORE, some COAL", x.charge(8, 1));
        DUE.no("12 of 11 COAL", x.charge(0, 12));
        DUE.no("12 of 11 COAL, some ORE", x.charge(1, 12));
        DUE.no("ORE that is not dug", x.charge(5_000, 0));
        DUE.yes("7 and 11", x.charge(7, 11));
        DUE.no("1 of 0 ORE", x.charge(1, 0));
        DUE.no("1 of 0 COAL", x.charge(0, 1));
    }

    private static void refusedChargeTakesNothing() {
        DUE.sentence("charge, False, and nothing is taken");
        BogForge x = yards(new int[] {3, 4}, new int[] {5, 6});
        x.charge(7, 12);
        x.charge(8, 11);
        x.charge(7, 5_001);
        x.charge(-1, 11);
        DUE.is("the YARD's ORE of bog 0", x.ground(0, 6), 3);
        DUE.is("the YARD's ORE of bog 1", x.ground(1, 6), 4);
        DUE.is("the YARD's COAL", x.count(8), 11);
        DUE.is("ORE", x.furnace(3), 0);
        DUE.is("COAL", x.furnace(4), 0);
        DUE.is("so a YEAR ends", x.year(), 1);
    }

    private static void chargeWrapsAround() {
        DUE.sentence("charge, False: sums that wrap around");
        BogForge x = yards(new int[] {20}, new int[] {20});
        DUE.no("greatest and its negative", x.charge(GREATEST, -GREATEST));
        DUE.no("1 and -1", x.charge(1, -1));
        DUE.no("-1 and 1", x.charge(-1, 1));
        DUE.no("least twice", x.charge(LEAST, LEAST));
        DUE.no("greatest twice", x.charge(GREATEST, GREATEST));
        DUE.no("5 and least", x.charge(5, LEAST));
        DUE.is("ORE", x.furnace(3), 0);
        DUE.is("COAL", x.furnace(4), 0);
    }

    private static void chargeAgainAndAgain() {
        DUE.sentence("Charging: no more bounds in all");
        BogForge x = yards(new int[] {100_000}, new int[] {10_000, 10_000, 10_000});
        for (int i = 1; i <= 6; i++) {
            DUE.yes("charge(5000, 5000)", x.charge(5_000, 5_000));
            DUE.is("ORE", x.furnace(3), 5_000 * i);
            DUE.is("COAL", x.furnace(4), 5_000 * i);
        }
    }

    private static void parted(String what, int number, int[] measures, int[] due) {
        BogForge x = yards(measures, measures.length <= 8 ? measures : new int[0]);
        DUE.yes(what, x.charge(number, measures.length <= 8 ? number : 0));
        for (int i = 0; i < measures.length; i++) {
            DUE.is(what + ": bog " + i, measures[i] - x.ground(i, 6), due[i]);
        }
        for (int i = 0; i < measures.length && measures.length <= 8; i++) {
            DUE.is(what + ": burner " + i, measures[i] + 1 - x.coal(i, 1), due[i]);
        }
    }

    private static void partCutAndRests() {
        DUE.sentence("each gets the number times its measure by the sum, cut; what is left goes by ones to the greatest rests");
        // 7 of 50, 30, 20: 3 rest 50, 2 rest 10, 1 rest 40.
        parted("one is left", 7, new int[] {50, 30, 20}, new int[] {4, 2, 1});
        // 8 of 5, 5, 6: 2 rest 8, 2 rest 8, 3 rest 0.
        parted("one is left, of alike rests", 8, new int[] {5, 5, 6}, new int[] {3, 2, 3});
        // 5 of 4, 3, 3, 4: 1 rest 6, 1 rest 1, 1 rest 1, 1 rest 6.
        parted("the greatest, not the first", 5, new int[] {3, 4, 3, 4}, new int[] {1, 2, 1, 1});
        // 3 of 1, 2, 2, 2: 0 rest 3, 0 rest 6 thrice: three are left.
        parted("all by rests", 3, new int[] {1, 2, 2, 2}, new int[] {0, 1, 1, 1});
        parted("nothing is left", 5, new int[] {2, 4, 4}, new int[] {1, 2, 2});
        parted("a measure of 0 gets nothing", 3, new int[] {0, 2, 0, 2, 0}, new int[] {0, 2, 0, 1, 0});
    }

    private static void partAlikeRests() {
        DUE.sentence("of alike rests the lowest number first");
        parted("1 of 12", 1, new int[] {9, 9, 9, 9, 9, 9, 9, 9, 9, 9, 9, 9}, new int[] {1, 0, 0, 0, 0, 0, 0, 0, 0, 0, 0, 0});
        parted("11 of 12", 11, new int[] {9, 9, 9, 9, 9, 9, 9, 9, 9, 9, 9, 9}, new int[] {1, 1, 1, 1, 1, 1, 1, 1, 1, 1, 1, 0});
        parted("12 of 12", 12, new int[] {9, 9, 9, 9, 9, 9, 9, 9, 9, 9, 9, 9}, new int[] {1, 1, 1, 1, 1, 1, 1, 1, 1, 1, 1, 1});
        parted("13 of 12", 13, new int[] {9, 9, 9, 9, 9, 9, 9, 9, 9, 9, 9, 9}, new int[] {2, 1, 1, 1, 1, 1, 1, 1, 1, 1, 1, 1});
        parted("7 of 8", 7, new int[] {5, 5, 5, 5, 5, 5, 5, 5}, new int[] {1, 1, 1, 1, 1, 1, 1, 0});
        parted("of the last two", 1, new int[] {0, 0, 0, 3, 3}, new int[] {0, 0, 0, 1, 0});
    }

    private static void partAmongOneAndAll() {
        DUE.sentence("TO PART: one alone, all there is, a single one");
        parted("the last has all", 7, new int[] {0, 0, 0, 0, 0, 0, 0, 9}, new int[] {0, 0, 0, 0, 0, 0, 0, 7});
        parted("all there is", 10, new int[] {1, 2, 3, 4}, new int[] {1, 2, 3, 4});
        parted("one kilogram goes to the most", 1, new int[] {4, 9, 7}, new int[] {0, 1, 0});
        BogForge x = yards(new int[] {100_000, 1}, new int[0]);
        for (int i = 0; i < 10; i++) {
            x.charge(5_000, 0);
        }
        // Each time 5,000 of some 100,000: the one kilogram's rest is 5,000, the other's is more.
        DUE.is("a great number times a great measure", x.ground(0, 6), 50_000);
        DUE.is("the one kilogram stays", x.ground(1, 6), 1);
        BogForge y = new BogForge();
        for (int i = 0; i < 100; i++) {
            y.coal(2, 10_000);
            y.coal(5, 10_000);
        }
        y.charge(0, 4_999);
        DUE.is("half of 4,999 of two millions, and one", y.coal(2, 1), 997_501);
        DUE.is("the other half", y.coal(5, 1), 997_502);
    }

    private static void blowInBounds() {
        DUE.sentence("n MINUTES (0 .. 2,000) go by. NONE: n");
        BogForge x = blown(0, 5_000);
        for (int n : new int[] {-1, 2_001, 20_000, LEAST, GREATEST}) {
            DUE.is("blow(" + n + ")", x.blow(n), -1);
        }
        DUE.is("MINUTES", x.furnace(6), 0);
        DUE.is("COAL", x.furnace(4), 5_000);
        DUE.is("blow(1)", x.blow(1), 104);
        DUE.is("blow(2000)", x.blow(2_000), 0);
        DUE.is("MINUTES", x.furnace(6), 2_001);
    }

    private static void blowNone() {
        DUE.sentence("n MINUTES (0) go by: HEAT");
        BogForge x = blown(0, 5_000);
        DUE.is("cold", x.blow(0), 0);
        DUE.is("SEEN, AIR: no minute went by", x.furnace(1) + x.furnace(2) + x.furnace(6), 0);
        DUE.is("COAL", x.furnace(4), 5_000);
        x.blow(2);
        DUE.is("hot", x.blow(0), 205);
        DUE.is("MINUTES", x.furnace(6), 2);
    }

    private static void blowUpTo20000() {
        DUE.sentence("blow, NONE: MINUTES would be above 20,000");
        BogForge x = new BogForge();
        Kit.rules(x, "m=19999:7;m=19998:6;m<19998:5");
        for (int i = 0; i < 9; i++) {
            x.blow(2_000);
        }
        x.blow(1_998);
        DUE.is("MINUTES", x.furnace(6), 19_998);
        DUE.is("AIR", x.furnace(2), 5);
        DUE.is("three more", x.blow(3), -1);
        DUE.is("2,000 more", x.blow(2_000), -1);
        DUE.is("greatest wraps around", x.blow(GREATEST), -1);
        DUE.is("MINUTES", x.furnace(6), 19_998);
        DUE.is("one more", x.blow(1), 0);
        DUE.is("two more", x.blow(2), -1);
        DUE.is("AIR", x.furnace(2), 6);
        DUE.is("one more", x.blow(1), 0);
        DUE.is("MINUTES", x.furnace(6), 20_000);
        DUE.is("AIR in the last", x.furnace(2), 7);
        DUE.is("one more", x.blow(1), -1);
        DUE.is("none more", x.blow(0), 0);
        DUE.is("MINUTES", x.furnace(6), 20_000);
    }

    private static void furnaceOfOthers() {
        DUE.sentence("furnace, NONE for others");
        BogForge x = blown(20, 500);
        x.blow(16);
        for (int what : new int[] {-1, 9, 10, LEAST, GREATEST}) {
            DUE.is("furnace(" + what + ")", x.furnace(what), -1);
        }
        int[] due = {1_385, 1_314, 9, 8, 356, 12, 16, 2, 14};
        for (int what = 0; what < due.length; what++) {
            DUE.is("furnace(" + what + ")", x.furnace(what), due[what]);
        }
    }

    private static void firstScorchIsNone() {
        DUE.sentence("furnace, 8: the first MINUTE of SCORCH (NONE)");
        BogForge x = blown(3, 500);
        x.blow(14);
        DUE.is("not yet", x.furnace(8), -1);
        x.blow(1);
        DUE.is("then", x.furnace(8), 14);
        x.draw();
        DUE.is("drawn", x.furnace(8), -1);
        x.charge(0, 300);
        x.blow(20);
        DUE.is("anew", x.furnace(8), 14);
    }
}
