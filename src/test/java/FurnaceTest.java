/** Promises 7, 8, 13, 14 and 16: the furnace. */
public final class FurnaceTest {
    private static final Due DUE = new Due("FurnaceTest");

    public static void main(String[] args) {
        water();
        gap();
        charge();
        chargeIsParted();
        chargeTies();
        heat();
        coalRunsOut();
        reducing();
        reducingIsParted();
        noReducingWithoutBurning();
        scorch();
        blow();
        furnace();
        DUE.finish();
    }

    private static void water() {
        BogForge x = Kit.works();
        DUE.no("water(-1)", x.water(-1));
        DUE.no("water(10)", x.water(10));
        DUE.no("water(greatest)", x.water(Integer.MAX_VALUE));
        x.charge(0, 100);
        Kit.rules(x, "m=0:7");
        DUE.yes("water(3)", x.water(3));
        x.blow(1);
        DUE.is("WATER is less than AIR: COAL", x.furnace(4), 97);
        DUE.is("AIR as told", x.furnace(2), 7);
        DUE.no("refused", x.water(10));
        x.blow(1);
        DUE.is("as before", x.furnace(4), 94);
        DUE.yes("water(0)", x.water(0));
        x.blow(1);
        DUE.is("no WATER, no wind", x.furnace(4), 94);
        DUE.yes("water(9)", x.water(9));
        x.blow(1);
        DUE.is("WATER is more than AIR: COAL", x.furnace(4), 87);
    }

    private static void gap() {
        BogForge x = Kit.works();
        DUE.no("gap(0)", x.gap(0));
        DUE.no("gap(31)", x.gap(31));
        DUE.no("gap(-1)", x.gap(-1));
        DUE.no("gap(least)", x.gap(Integer.MIN_VALUE));
        x.charge(0, 1_000);
        Kit.rules(x, Kit.FULL);
        DUE.yes("gap(3)", x.gap(3));
        int[] seen = {0, 0, 0, 304, 304, 304, 585, 585, 585, 846};
        for (int minute = 0; minute < seen.length; minute++) {
            x.blow(1);
            DUE.is("SEEN after minute " + minute, x.furnace(1), seen[minute]);
        }
        DUE.no("refused", x.gap(0));
        x.blow(2);
        DUE.is("GAP stays 3", x.furnace(1), 846);
        DUE.yes("gap(30)", x.gap(30));
        x.blow(18);
        DUE.is("30 minutes are gone: not read yet", x.furnace(1), 846);
        x.blow(1);
        DUE.is("minute 30 reads", x.furnace(1), 2_210);
        DUE.yes("gap(1)", x.gap(1));
        x.blow(1);
        DUE.is("each minute", x.furnace(1), 2_259);
    }

    private static void charge() {
        BogForge x = new BogForge();
        x.bog(100_000, 0, 0);
        x.dig(0, 10_000);
        x.coal(2, 10_000);
        DUE.no("charge(0, 0)", x.charge(0, 0));
        DUE.no("charge(-1, 2)", x.charge(-1, 2));
        DUE.no("charge(2, -1)", x.charge(2, -1));
        DUE.no("charge(5001, 0)", x.charge(5_001, 0));
        DUE.no("charge(0, 5001)", x.charge(0, 5_001));
        DUE.no("charge(greatest, greatest)", x.charge(Integer.MAX_VALUE, Integer.MAX_VALUE));
        DUE.no("charge(greatest, least)", x.charge(Integer.MAX_VALUE, -Integer.MAX_VALUE));
        DUE.yes("charge(5000, 5000)", x.charge(5_000, 5_000));
        DUE.yes("charge(4999, 0)", x.charge(4_999, 0));
        DUE.no("more than the YARD's ORE", x.charge(2, 1));
        DUE.is("no COAL went with it", x.furnace(4), 5_000);
        DUE.yes("charge(0, 4990)", x.charge(0, 4_990));
        DUE.no("more than the YARD's COAL", x.charge(1, 11));
        DUE.is("no ORE went with it", x.furnace(3), 9_999);
        DUE.yes("all that is left", x.charge(1, 10));
        DUE.is("ORE in all", x.furnace(3), 10_000);
        DUE.is("COAL in all", x.furnace(4), 10_000);
        DUE.is("YARD: ORE", x.ground(0, 6), 0);
        DUE.is("YARD: COAL", x.count(8), 0);
    }

    private static void chargeIsParted() {
        BogForge x = new BogForge();
        int[] yard = {70, 0, 20, 11};
        for (int i = 0; i < yard.length; i++) {
            x.bog(100, 0, 0);
            x.dig(i, yard[i]);
        }
        int[] coal = {10, 0, 25, 0, 0, 66, 0, 1};
        for (int i = 0; i < coal.length; i++) {
            x.coal(i, coal[i]);
        }
        // 10 of 70, 0, 20, 11 (101): 6 rest 94, 0, 1 rest 99, 1 rest 9: two are left, for bogs 2 and 0.
        DUE.yes("charge(10, 10)", x.charge(10, 10));
        int[] ore = {63, 0, 18, 10};
        for (int i = 0; i < ore.length; i++) {
            DUE.is("YARD of bog " + i, x.ground(i, 6), ore[i]);
        }
        // 10 of 10, 25, 66, 1 (102): 0 rest 100, 2 rest 46, 6 rest 48, 0 rest 10: two are left, for burners 0 and 5.
        int[] left = {9, 0, 23, 0, 0, 59, 0, 1};
        for (int i = 0; i < left.length; i++) {
            DUE.is("YARD of burner " + i, x.coal(i, 1), left[i] + 1);
        }
    }

    private static void chargeTies() {
        BogForge x = new BogForge();
        for (int i = 0; i < 12; i++) {
            x.bog(10, 0, 0);
            x.dig(i, 10);
        }
        x.charge(5, 0);
        for (int i = 0; i < 12; i++) {
            DUE.is("of alike rests the lowest: bog " + i, x.ground(i, 6), i < 5 ? 9 : 10);
        }
        x.charge(115, 0);
        for (int i = 0; i < 12; i++) {
            DUE.is("all of it", x.ground(i, 6), 0);
        }
    }

    private static void heat() {
        BogForge x = Kit.works();
        x.charge(0, 5_000);
        Kit.rules(x, Kit.FULL);
        int[] due = {104, 205, 304, 400, 494, 585, 674, 761, 846, 929, 1_010, 1_089, 1_166, 1_241, 1_314};
        for (int want : due) {
            DUE.is("HEAT", x.blow(1), want);
        }
        DUE.is("COAL", x.furnace(4), 5_000 - 9 * due.length);
        Kit.rules(x, "m>0:0");
        DUE.is("1314 less 32 and 2", x.blow(1), 1_280);
        DUE.is("1280 less 32 and 2", x.blow(1), 1_246);
        x.blow(200);
        DUE.is("at least 0", x.furnace(0), 0);
        BogForge y = Kit.works();
        y.charge(0, 1);
        Kit.rules(y, "m=0:1");
        DUE.is("12 less 0 and 2", y.blow(1), 10);
        int[] cooling = {8, 6, 4, 2, 0, 0};
        for (int want : cooling) {
            DUE.is("without COAL", y.blow(1), want);
        }
        BogForge z = Kit.works();
        z.charge(0, 5_000);
        Kit.rules(z, "m=0:4;m=1:0");
        DUE.is("48 less 1 and 2", z.blow(1), 45);
        DUE.is("45 less 1 and 2", z.blow(1), 42);
        DUE.is("42 less 1 and 2", z.blow(1), 39);
        DUE.is("39 less 0 and 2", z.blow(1), 37);
    }

    private static void coalRunsOut() {
        BogForge x = Kit.works();
        x.charge(0, 13);
        Kit.rules(x, Kit.FULL);
        x.blow(1);
        DUE.is("9 of 13", x.furnace(4), 4);
        DUE.is("104 and 48, less 3 and 2", x.blow(1), 147);
        DUE.is("what is left burns", x.furnace(4), 0);
        DUE.is("147 less 3 and 2", x.blow(1), 142);
        DUE.is("none is left", x.furnace(4), 0);
    }

    private static void reducing() {
        BogForge x = Kit.works();
        x.charge(8, 5_000);
        Kit.rules(x, Kit.FULL);
        x.blow(10);
        DUE.is("929: nothing", x.furnace(5), 0);
        x.blow(1);
        DUE.is("1010: three", x.furnace(5), 3);
        DUE.is("ORE left", x.furnace(3), 5);
        x.blow(1);
        DUE.is("three more", x.furnace(5), 6);
        x.blow(1);
        DUE.is("what is left", x.furnace(5), 8);
        DUE.is("no ORE left", x.furnace(3), 0);
        x.blow(1);
        DUE.is("no more", x.furnace(5), 8);
        lastMinute("999", 999, 0, 0);
        lastMinute("exactly 1,000", 1_000, 3, 0);
        lastMinute("exactly 1,300", 1_300, 3, 0);
        lastMinute("1,301", 1_301, 0, 1);
    }

    /** One minute that comes to just so much HEAT with some COAL burnt, after none with SCORCH. */
    private static void lastMinute(String name, int heat, int bloom, int scorch) {
        for (int before = 8; before < 15; before++) {
            for (int cool = 0; cool < 10; cool++) {
                for (int slow = 0; slow < 90; slow++) {
                    int last = before + cool + slow % 10;
                    BogForge x = Kit.works();
                    x.charge(0, 1_000);
                    Kit.rules(x, "m<" + before + ":9;m<" + (before + cool) + ":0;m<" + last + ":6;m>0:" + (1 + slow / 10));
                    x.blow(last);
                    x.charge(9, 0);
                    if (x.furnace(7) == 0 && x.blow(1) == heat) {
                        DUE.is(name + ": BLOOM", x.furnace(5), bloom);
                        DUE.is(name + ": ORE left", x.furnace(3), 9 - bloom);
                        DUE.is(name + ": SCORCH", x.furnace(7), scorch);
                        DUE.is(name + ": first MINUTE of it", x.furnace(8), scorch > 0 ? last : -1);
                        return;
                    }
                }
            }
        }
        DUE.yes(name + " was come to", false);
    }

    private static void reducingIsParted() {
        BogForge x = new BogForge();
        int[] yard = {1, 5, 2, 0, 5};
        for (int i = 0; i < yard.length; i++) {
            x.bog(10, 0, 0);
            x.dig(i, yard[i]);
        }
        x.coal(0, 1_000);
        x.charge(13, 1_000);
        Kit.rules(x, Kit.FULL);
        // 3 of 1, 5, 2, 0, 5: bogs 1 and 4 one each, rests 3, 2, 6, 0, 2: one more for bog 2.
        // 3 of 1, 4, 1, 0, 4: bogs 1 and 4 one each, rests 3, 2, 3, 0, 2: one more for bog 0.
        // 3 of 0, 3, 1, 0, 3: bogs 1 and 4 one each, rests 0, 2, 3, 0, 2: one more for bog 2.
        // 3 of 0, 2, 0, 0, 2: one each, rests 2 and 2: one more for bog 1.
        x.blow(14);
        x.draw();
        int[] due = {1, 5, 2, 0, 4};
        for (int i = 0; i < due.length; i++) {
            DUE.is("BLOOM of bog " + i, x.part(0, i), due[i]);
        }
        DUE.is("ORE gone", x.count(9), 1);
    }

    private static void noReducingWithoutBurning() {
        BogForge x = Kit.works();
        x.charge(100, 5_000);
        Kit.rules(x, "m<12:9;m>11:0");
        x.blow(12);
        DUE.is("two minutes of it", x.furnace(5), 6);
        x.blow(1);
        DUE.yes("hot enough", x.furnace(0) >= 1_000);
        DUE.is("but nothing burnt", x.furnace(5), 6);
        Kit.rules(x, "m>0:1");
        x.blow(1);
        DUE.is("one kilogram is some", x.furnace(5), 9);
        x.water(0);
        DUE.yes("still hot enough", x.blow(1) >= 1_000);
        DUE.is("AIR without WATER burns nothing", x.furnace(5), 9);
    }

    private static void scorch() {
        BogForge x = Kit.works();
        x.charge(0, 5_000);
        Kit.rules(x, "m=0:9;m=16:0;m=20:9");
        x.blow(14);
        DUE.is("1241: none", x.furnace(7), 0);
        DUE.is("no first", x.furnace(8), -1);
        x.blow(1);
        DUE.is("1314: one", x.furnace(7), 1);
        DUE.is("first, by MINUTES ahead of it", x.furnace(8), 14);
        x.blow(1);
        DUE.is("two", x.furnace(7), 2);
        x.blow(1);
        DUE.is("SCORCH without burning", x.furnace(0) > 1_300 ? x.furnace(7) : -7, 3);
        x.blow(3);
        DUE.yes("cooler", x.furnace(0) <= 1_300);
        int before = x.furnace(7);
        x.blow(1);
        DUE.is("more only above 1300", x.furnace(7), x.furnace(0) > 1_300 ? before + 1 : before);
        x.blow(20);
        DUE.yes("more of it", x.furnace(7) > before);
        DUE.is("the first stays", x.furnace(8), 14);
    }

    private static void blow() {
        BogForge x = Kit.works();
        DUE.is("blow(-1)", x.blow(-1), -1);
        DUE.is("blow(2001)", x.blow(2_001), -1);
        DUE.is("blow(greatest)", x.blow(Integer.MAX_VALUE), -1);
        DUE.is("blow(least)", x.blow(Integer.MIN_VALUE), -1);
        DUE.is("none went by", x.furnace(6), 0);
        x.charge(0, 5_000);
        Kit.rules(x, "m=0:1");
        DUE.is("blow(1)", x.blow(1), 10);
        DUE.is("blow(0) tells HEAT", x.blow(0), 10);
        DUE.is("MINUTES", x.furnace(6), 1);
        DUE.is("blow(1999)", x.blow(1_999), 388);
        for (int i = 2; i <= 9; i++) {
            x.blow(2_000);
            DUE.is("MINUTES", x.furnace(6), 2_000 * i);
        }
        DUE.is("blow(1999), up to 19,999", x.blow(1_999), 0);
        DUE.is("above 20,000", x.blow(2), -1);
        DUE.is("MINUTES stay", x.furnace(6), 19_999);
        DUE.is("up to 20,000", x.blow(1), 0);
        DUE.is("one more", x.blow(1), -1);
        DUE.is("none", x.blow(0), 0);
        DUE.is("MINUTES", x.furnace(6), 20_000);
        DUE.is("no COAL is left", x.furnace(4), 0);
        DUE.is("so a YEAR ends", x.year(), 1);
        DUE.is("and MINUTES stay", x.furnace(6), 20_000);
    }

    private static void furnace() {
        BogForge x = Kit.works();
        x.gap(2);
        x.charge(100, 500);
        Kit.rules(x, Kit.FULL);
        x.blow(16);
        int[] due = {1_385, 1_241, 9, 88, 356, 12, 16, 2, 14};
        for (int what = 0; what < due.length; what++) {
            DUE.is("furnace(" + what + ")", x.furnace(what), due[what]);
        }
        int[] others = {-1, 9, Integer.MIN_VALUE, Integer.MAX_VALUE};
        for (int other : others) {
            DUE.is("furnace(" + other + ")", x.furnace(other), -1);
        }
        x.draw();
        for (int what = 0; what <= 7; what++) {
            DUE.is("drawn: furnace(" + what + ")", x.furnace(what), 0);
        }
        DUE.is("drawn: furnace(8)", x.furnace(8), -1);
    }
}
