/** Each sentence on a new object, on counts and on the 512 calls that names a boundary: promises 1 and 31. */
public final class EdgeCountTest {
    private static final Due DUE = new Due("EdgeCountTest");
    private static final int LEAST = Integer.MIN_VALUE;
    private static final int GREATEST = Integer.MAX_VALUE;

    public static void main(String[] args) {
        noneIsMinusOne();
        newObjectCounts();
        newObjectHasNothing();
        newObjectsAreApart();
        countOfOthers();
        nowCounted();
        bogsCounted();
        barsCounted();
        paysCounted();
        linesCounted();
        ordersCounted();
        metCounted();
        bytesCounted();
        coalCounted();
        coalCountedAtMost();
        oreGoneCounted();
        theLastOf512Calls();
        longestBlowsOf512Calls();
        dearestMetsOf512Calls();
        DUE.finish();
    }

    private static void noneIsMinusOne() {
        DUE.sentence("NONE = -1: None; refused");
        DUE.is("NONE", BogForge.NONE, -1);
    }

    private static void newObjectCounts() {
        DUE.sentence("A new object: nothing; count");
        for (int what = 0; what <= 9; what++) {
            DUE.is("count(" + what + ")", new BogForge().count(what), 0);
        }
    }

    private static void newObjectHasNothing() {
        DUE.sentence("A new object: nothing; every call that asks for what there is not");
        BogForge x = new BogForge();
        DUE.no("test", x.test(0, 0, 1_000));
        DUE.is("dig", x.dig(0, 1), -1);
        DUE.is("fault", x.fault(), -1);
        DUE.no("charge ORE", x.charge(1, 0));
        DUE.no("charge COAL", x.charge(0, 1));
        DUE.is("blow", x.blow(0), 0);
        DUE.is("draw", x.draw(), -1);
        DUE.is("forge", x.forge(0, 1), -1);
        DUE.is("bar", x.bar(0, 0), -1);
        DUE.is("part", x.part(0, 0), 0);
        DUE.is("burnt", x.burnt(0, 0), 0);
        DUE.no("right", x.right(0, 0, 1, 0));
        DUE.is("pay", x.pay(0, 1), -1);
        DUE.is("again", x.again(0), -1);
        DUE.is("line", x.line(0, 0), 0);
        DUE.is("coins", x.coins(0), 0);
        DUE.is("met", x.met(0), -1);
        DUE.is("want", x.want(), 0);
        DUE.is("ground", x.ground(0, 0), -1);
        DUE.yes("rules", x.rules());
        DUE.is("MINUTES of a cold furnace", x.blow(5), 0);
        DUE.is("year", x.year(), 1);
    }

    private static void newObjectsAreApart() {
        DUE.sentence("A new object: nothing of another");
        BogForge x = Kit.works();
        Kit.cleanBar(x, 3);
        x.right(0, 1, 1, 0);
        x.pay(0, 5);
        x.order(0, 0);
        x.water(1);
        x.gap(30);
        Kit.feed(x, "h");
        x.year();
        BogForge y = new BogForge();
        for (int what = 0; what <= 9; what++) {
            DUE.is("count(" + what + ")", y.count(what), 0);
        }
        DUE.is("coins(1)", y.coins(1), 0);
        y.coal(0, 100);
        y.charge(0, 100);
        Kit.rules(y, Kit.FULL);
        y.blow(2);
        DUE.is("WATER 9", y.furnace(4), 82);
        DUE.is("GAP 1", y.furnace(1), 104);
    }

    private static void countOfOthers() {
        DUE.sentence("count, NONE for others");
        BogForge x = Kit.works();
        for (int what : new int[] {-1, 10, 11, LEAST, GREATEST}) {
            DUE.is("count(" + what + ")", x.count(what), -1);
        }
    }

    private static void nowCounted() {
        DUE.sentence("count, 0: NOW, up to 100");
        BogForge x = new BogForge();
        for (int year = 1; year <= 101; year++) {
            x.year();
            DUE.is("count(0)", x.count(0), Math.min(100, year));
        }
    }

    private static void bogsCounted() {
        DUE.sentence("count, 1: BOGS, up to 12");
        BogForge x = new BogForge();
        for (int bog = 1; bog <= 13; bog++) {
            x.bog(0, 0, 0);
            DUE.is("count(1)", x.count(1), Math.min(12, bog));
        }
    }

    private static void barsCounted() {
        DUE.sentence("count, 2: BARS, up to 100");
        BogForge x = Kit.works();
        x.coal(0, 10_000);
        Kit.rules(x, Kit.FULL);
        for (int bar = 1; bar <= 101; bar++) {
            x.charge(1, 99);
            x.blow(11);
            x.draw();
            DUE.is("count(2)", x.count(2), Math.min(100, bar));
        }
    }

    private static void paysCounted() {
        DUE.sentence("count, 3: PAYS, up to 60");
        BogForge x = Kit.works();
        Kit.cleanBar(x, 3);
        for (int pay = 1; pay <= 61; pay++) {
            x.pay(0, 5);
            DUE.is("count(3)", x.count(3), Math.min(60, pay));
        }
        x.again(0);
        DUE.is("PARTING anew is no PAY", x.count(3), 60);
    }

    private static void linesCounted() {
        DUE.sentence("count, 4: LINES, from 0 on");
        BogForge x = Kit.works();
        Kit.cleanBar(x, 3);
        DUE.is("none", x.count(4), 0);
        x.pay(0, 8);
        DUE.is("one", x.count(4), 1);
        x.again(0);
        DUE.is("no differences", x.count(4), 1);
        for (int holder = 0; holder < 8; holder++) {
            x.right(0, holder, 1, 0);
        }
        x.again(0);
        DUE.is("eight differences", x.count(4), 9);
        x.pay(0, 0);
        x.again(1);
        DUE.is("refused", x.count(4), 9);
    }

    private static void ordersCounted() {
        DUE.sentence("count, 5: ORDERS, up to 8");
        BogForge x = new BogForge();
        for (int order = 1; order <= 9; order++) {
            x.order(0, 0);
            DUE.is("count(5)", x.count(5), Math.min(8, order));
        }
        x.clear();
        DUE.is("cleared", x.count(5), 0);
    }

    private static void metCounted() {
        DUE.sentence("count, 6: how many are MET, none to all");
        BogForge x = Kit.works();
        DUE.is("no ORDERS", x.count(6), 0);
        x.order(0, 0);
        x.order(0, 0);
        x.order(0, 1);
        DUE.is("no BARS", x.count(6), 0);
        Kit.cleanBar(x, 3);
        DUE.is("one BAR", x.count(6), 1);
        Kit.cleanBar(x, 3);
        DUE.is("two BARS", x.count(6), 2);
        Kit.cleanBar(x, 3);
        DUE.is("three BARS of no sure iron", x.count(6), 2);
        Kit.pureIron(x, 0);
        Kit.cleanBar(x, 3);
        DUE.is("all", x.count(6), 3);
        x.clear();
        DUE.is("cleared", x.count(6), 0);
    }

    private static void bytesCounted() {
        DUE.sentence("count, 7: bytes of the TAPE, up to 200");
        BogForge x = new BogForge();
        for (int feed = 1; feed <= 11; feed++) {
            x.feed(-1, -1, -1, -1, -1);
            DUE.is("count(7)", x.count(7), Math.min(200, 20 * feed));
        }
        x.end(7);
        DUE.is("ended", x.count(7), 7);
        x.end(0);
        DUE.is("ended", x.count(7), 0);
    }

    private static void coalCounted() {
        DUE.sentence("count, 8: COAL in the YARD, of all BURNERS");
        BogForge x = new BogForge();
        for (int burner = 0; burner < 8; burner++) {
            x.coal(burner, 1 << burner);
        }
        DUE.is("count(8)", x.count(8), 255);
        x.charge(0, 255);
        DUE.is("none is left", x.count(8), 0);
    }

    private static void coalCountedAtMost() {
        DUE.sentence("count, 8: COAL in the YARD, above 1,000,000 of several BURNERS");
        BogForge x = new BogForge();
        for (int i = 0; i < 500; i++) {
            x.coal(i % 5, 10_000);
        }
        DUE.is("count(8)", x.count(8), 5_000_000);
        DUE.is("a burner that has all", x.coal(4, 1), -1);
        DUE.is("another", x.coal(5, 1), 1);
    }

    private static void oreGoneCounted() {
        DUE.sentence("count, 9: ORE gone with what was left in THE FURNACE");
        BogForge x = Kit.works();
        Kit.rules(x, Kit.FULL);
        x.charge(3, 99);
        x.blow(11);
        x.draw();
        DUE.is("nothing was left", x.count(9), 0);
        x.charge(4, 99);
        x.blow(11);
        x.draw();
        DUE.is("one was left", x.count(9), 1);
        x.charge(5_000, 99);
        x.blow(11);
        DUE.is("it is not drawn yet", x.count(9), 1);
        x.draw();
        DUE.is("4,997 were left", x.count(9), 4_998);
        x.draw();
        DUE.is("refused", x.count(9), 4_998);
    }

    private static void theLastOf512Calls() {
        DUE.sentence("An object is used for at most 512 calls: the last is answered as the first");
        BogForge x = new BogForge();
        x.bog(100_000, 0, 0);
        for (int call = 2; call <= 511; call++) {
            DUE.is("call " + call, x.dig(0, 3), 3 * (call - 1));
        }
        DUE.is("call 512", x.ground(0, 6), 1_530);
    }

    private static void longestBlowsOf512Calls() {
        DUE.sentence("An object is used for at most 512 calls: as many MINUTES as they can be");
        BogForge x = Kit.works();
        x.coal(0, 10_000);
        Kit.rules(x, "m=0:9");
        int calls = 7;
        int bars = 0;
        while (calls + 13 <= 512) {
            x.charge(3, 99);
            x.blow(11);
            for (int i = 0; i < 9; i++) {
                x.blow(2_000);
            }
            DUE.is("up to 20,000", x.blow(1_989), 0);
            DUE.is("draw()", x.draw(), bars);
            bars++;
            calls += 13;
        }
        DUE.is("bars", bars, 38);
    }

    private static void dearestMetsOf512Calls() {
        DUE.sentence("An object is used for at most 512 calls: MET and WANT of eight ORDERS and many BARS");
        BogForge x = Kit.works();
        x.coal(0, 10_000);
        Kit.pureIron(x, 0);
        Kit.rules(x, Kit.FULL);
        for (int bar = 0; bar < 100; bar++) {
            x.charge(bar < 93 ? 1 : 3, 99);
            x.blow(11);
            x.draw();
        }
        for (int order = 0; order < 8; order++) {
            x.order(0, 2);
        }
        for (int i = 0; i < 60; i++) {
            DUE.is("met(6)", x.met(6), 99);
            DUE.is("met(7)", x.met(7), -1);
            DUE.is("want()", x.want(), 255);
        }
    }
}
