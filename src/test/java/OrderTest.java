import java.util.Random;

/** Promises 26 to 29: orders, MET and WANT. */
public final class OrderTest {
    private static final Due DUE = new Due("OrderTest");

    public static void main(String[] args) {
        order();
        clear();
        fits();
        asMany();
        lowerBarOfAnEarlierOrder();
        anotherOrderInstead();
        aBarSetFree();
        lowerBars();
        want();
        changesWithBars();
        allWays();
        DUE.finish();
    }

    /** Bars of so much iron each, without SCORCH. */
    private static BogForge bars(int... iron) {
        BogForge x = Kit.works();
        Kit.pureIron(x, 0);
        for (int kilograms : iron) {
            Kit.cleanBar(x, kilograms);
        }
        return x;
    }

    private static void order() {
        BogForge x = new BogForge();
        int[][] wrong = {{-1, 0}, {3, 0}, {0, -1}, {0, 100_001}, {Integer.MAX_VALUE, 0}, {0, Integer.MIN_VALUE}};
        for (int[] w : wrong) {
            DUE.is("order(" + w[0] + ", " + w[1] + ")", x.order(w[0], w[1]), -1);
        }
        DUE.is("ORDERS", x.count(5), 0);
        DUE.is("least", x.order(0, 0), 0);
        DUE.is("greatest", x.order(2, 100_000), 1);
        for (int i = 2; i < 8; i++) {
            DUE.is("order", x.order(1, i), i);
        }
        DUE.is("there are eight", x.order(0, 0), -1);
        DUE.is("ORDERS", x.count(5), 8);
        DUE.is("without bars the least set is the first order", x.want(), 1);
        DUE.is("met(7)", x.met(7), -1);
    }

    private static void clear() {
        BogForge x = bars(5);
        x.order(0, 1);
        x.order(0, 1);
        x.clear();
        DUE.is("ORDERS", x.count(5), 0);
        DUE.is("met(0)", x.met(0), -1);
        DUE.is("MET", x.count(6), 0);
        DUE.is("want()", x.want(), 0);
        x.clear();
        DUE.is("from the first again", x.order(0, 6), 0);
        DUE.is("as told now", x.met(0), -1);
        DUE.is("BARS stay", x.count(2), 1);
    }

    private static void fits() {
        BogForge x = bars(5);
        x.order(0, 5);
        DUE.is("just so many", x.met(0), 0);
        x.clear();
        x.order(2, 6);
        DUE.is("one too many", x.met(0), -1);
        BogForge y = Kit.works();
        Kit.pureIron(y, 0);
        Kit.scorchedBar(y, 10, 4);
        y.order(0, 0);
        DUE.is("SORT 1 for 0", y.met(0), -1);
        y.order(1, 10);
        DUE.is("SORT 1 for 1", y.met(1), 0);
        y.clear();
        y.order(2, 10);
        DUE.is("SORT 1 for 2", y.met(0), 0);
        BogForge z = Kit.works();
        z.test(0, 500, 1_000);
        Kit.cleanBar(z, 10);
        z.order(0, 6);
        DUE.is("least counts, not greatest", z.met(0), -1);
        z.order(0, 5);
        DUE.is("least", z.met(1), 0);
        DUE.is("met(-1)", z.met(-1), -1);
        DUE.is("met(2)", z.met(2), -1);
        DUE.is("met(8)", z.met(8), -1);
        DUE.is("met(greatest)", z.met(Integer.MAX_VALUE), -1);
        DUE.is("met(least)", z.met(Integer.MIN_VALUE), -1);
    }

    private static void asMany() {
        BogForge x = bars(9, 3);
        x.order(0, 1);
        x.order(0, 4);
        DUE.is("the lower bar is the other's only one", x.met(0), 1);
        DUE.is("so it has it", x.met(1), 0);
        DUE.is("MET", x.count(6), 2);
        DUE.is("want()", x.want(), 0);
        x.order(0, 4);
        DUE.is("of alike orders the first", x.met(1), 0);
        DUE.is("not the last", x.met(2), -1);
        DUE.is("MET", x.count(6), 2);
        DUE.is("a bar meets one order at most", x.want(), 6);
    }

    /** Order 0 has bar 0, though that is order 1's only one: then order 2 is met instead, and two are met either way. */
    private static void lowerBarOfAnEarlierOrder() {
        BogForge x = Kit.works();
        Kit.pureIron(x, 0);
        Kit.cleanBar(x, 5);
        Kit.scorchedBar(x, 10, 4);
        x.order(1, 5);
        x.order(0, 5);
        x.order(1, 10);
        DUE.is("met(0)", x.met(0), 0);
        DUE.is("met(1)", x.met(1), -1);
        DUE.is("met(2)", x.met(2), 1);
        DUE.is("MET", x.count(6), 2);
        DUE.is("want()", x.want(), 7);
        x.clear();
        x.order(1, 5);
        x.order(0, 5);
        DUE.is("not if fewer were met: met(0)", x.met(0), 1);
        DUE.is("met(1)", x.met(1), 0);
    }

    /** Bar 0 goes from order 1 to order 0; order 3 is met in its stead, with the bar that order 0 leaves. */
    private static void anotherOrderInstead() {
        BogForge x = Kit.works();
        Kit.pureIron(x, 0);
        Kit.cleanBar(x, 6);
        Kit.scorchedBar(x, 6, 4);
        Kit.scorchedBar(x, 4, 4);
        x.order(1, 6);
        x.order(0, 1);
        x.order(1, 4);
        x.order(1, 5);
        DUE.is("met(0)", x.met(0), 0);
        DUE.is("met(1)", x.met(1), -1);
        DUE.is("met(2)", x.met(2), 2);
        DUE.is("met(3)", x.met(3), 1);
        DUE.is("MET", x.count(6), 3);
    }

    /** As order 0 has bar 0, order 2 has bar 1 and order 1 bar 3: so bar 2 is order 3's, and nobody has bar 4. */
    private static void aBarSetFree() {
        BogForge x = Kit.works();
        Kit.pureIron(x, 0);
        Kit.scorchedBar(x, 5, 4);
        Kit.cleanBar(x, 4);
        Kit.scorchedBar(x, 6, 15);
        Kit.cleanBar(x, 2);
        Kit.scorchedBar(x, 6, 15);
        x.order(2, 5);
        x.order(0, 2);
        x.order(1, 4);
        x.order(2, 6);
        DUE.is("met(0)", x.met(0), 0);
        DUE.is("met(1)", x.met(1), 3);
        DUE.is("met(2)", x.met(2), 1);
        DUE.is("met(3)", x.met(3), 2);
        DUE.is("want()", x.want(), 0);
    }

    private static void lowerBars() {
        BogForge x = bars(9, 3, 9, 3);
        x.order(0, 2);
        x.order(0, 2);
        DUE.is("met(0)", x.met(0), 0);
        DUE.is("met(1)", x.met(1), 1);
        x.order(0, 8);
        x.order(0, 8);
        DUE.is("the large ones are wanted: met(0)", x.met(0), 1);
        DUE.is("met(1)", x.met(1), 3);
        DUE.is("met(2)", x.met(2), 0);
        DUE.is("met(3)", x.met(3), 2);
    }

    private static void want() {
        BogForge x = bars(3, 6);
        DUE.is("no orders", x.want(), 0);
        x.order(0, 3);
        x.order(0, 6);
        DUE.is("all met", x.want(), 0);
        x.order(0, 7);
        DUE.is("one with no bar", x.want(), 4);
        x.order(0, 6);
        DUE.is("a set of less as a number", x.want(), 4);
        x.clear();
        x.order(0, 6);
        x.order(0, 1);
        x.order(0, 6);
        x.order(0, 7);
        DUE.is("5 is less than 8", x.want(), 5);
    }

    private static void changesWithBars() {
        BogForge x = bars(10);
        x.order(0, 10);
        DUE.is("met", x.met(0), 0);
        x.forge(0, 1);
        DUE.is("less iron by forging", x.met(0), -1);
        DUE.is("want", x.want(), 1);
        Kit.cleanBar(x, 12);
        DUE.is("a new bar", x.met(0), 1);
        DUE.is("want", x.want(), 0);
        BogForge y = Kit.works();
        Kit.pureIron(y, 0);
        Kit.scorchedBar(y, 12, 4);
        y.order(0, 1);
        DUE.is("SORT 1", y.count(6), 0);
        y.forge(0, 2);
        DUE.is("SORT 0 by forging", y.count(6), 1);
    }

    /** Every way is looked at: orders to bars or none, compared as the document tells. */
    private static void allWays() {
        Random random = new Random(11);
        for (int run = 0; run < 60; run++) {
            BogForge x = Kit.works();
            x.coal(1, 10_000);
            Kit.pureIron(x, 0);
            int bars = 1 + random.nextInt(5);
            for (int i = 0; i < bars; i++) {
                int scorch = new int[] {0, 4, 15}[random.nextInt(3)];
                Kit.scorchedBar(x, 1 + random.nextInt(6), scorch);
            }
            int[][] had = sortsAndIron(x, bars);
            for (int round = 0; round < 6; round++) {
                x.clear();
                int orders = 1 + random.nextInt(bars > 4 ? 6 : 8);
                int[][] asked = new int[orders][];
                for (int i = 0; i < orders; i++) {
                    asked[i] = new int[] {random.nextInt(3), random.nextInt(7)};
                    x.order(asked[i][0], asked[i][1]);
                }
                compare(x, asked, had, "run " + run + "." + round);
            }
        }
    }

    /** Read once, so that a run stays within 512 calls. */
    private static int[][] sortsAndIron(BogForge x, int bars) {
        int[][] had = new int[bars][];
        for (int bar = 0; bar < bars; bar++) {
            had[bar] = new int[] {x.bar(bar, 2), x.bar(bar, 0)};
        }
        return had;
    }

    private static void compare(BogForge x, int[][] asked, int[][] bars, String name) {
        int[] best = new int[asked.length];
        java.util.Arrays.fill(best, -1);
        search(asked, bars, new int[asked.length], 0, 0, best);
        int met = 0;
        for (int i = 0; i < asked.length; i++) {
            DUE.is(name + ": met(" + i + ")", x.met(i), best[i]);
            met += best[i] >= 0 ? 1 : 0;
        }
        DUE.is(name + ": MET", x.count(6), met);
        int want = 0;
        for (int set = 1; set < 1 << asked.length && want == 0; set++) {
            int could = 0;
            for (int[] bar : bars) {
                boolean any = false;
                for (int i = 0; i < asked.length; i++) {
                    any |= (set >> i & 1) == 1 && fit(asked[i], bar);
                }
                could += any ? 1 : 0;
            }
            want = Integer.bitCount(set) > could ? set : 0;
        }
        DUE.is(name + ": want()", x.want(), want);
        DUE.is(name + ": none wanted if all are met", want == 0 ? 1 : 0, met == asked.length ? 1 : 0);
    }

    private static boolean fit(int[] order, int[] bar) {
        return bar[0] <= order[0] && bar[1] >= order[1];
    }

    private static void search(int[][] asked, int[][] bars, int[] way, int at, int used, int[] best) {
        if (at == way.length) {
            if (better(way, best)) {
                System.arraycopy(way, 0, best, 0, way.length);
            }
            return;
        }
        for (int bar = -1; bar < bars.length; bar++) {
            if (bar < 0 || ((used >> bar & 1) == 0 && fit(asked[at], bars[bar]))) {
                way[at] = bar;
                search(asked, bars, way, at + 1, bar < 0 ? used : used | 1 << bar, best);
            }
        }
    }

    private static boolean better(int[] way, int[] than) {
        int more = 0;
        for (int i = 0; i < way.length; i++) {
            more += (way[i] >= 0 ? 1 : 0) - (than[i] >= 0 ? 1 : 0);
        }
        if (more != 0) {
            return more > 0;
        }
        for (int i = 0; i < way.length; i++) {
            if (way[i] != than[i]) {
                return than[i] < 0 || way[i] >= 0 && way[i] < than[i];
            }
        }
        return false;
    }
}
