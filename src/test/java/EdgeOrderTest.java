/** Each sentence on ORDERS, MET and WANT that names a boundary: promises 26 to 29. */
public final class EdgeOrderTest {
    private static final Due DUE = new Due("EdgeOrderTest");
    private static final int LEAST = Integer.MIN_VALUE;
    private static final int GREATEST = Integer.MAX_VALUE;

    public static void main(String[] args) {
        thereAreEight();
        orderSort();
        orderLeast();
        refusedOrders();
        sortAtMost();
        leastOfSoMany();
        greatestPlaysNoPart();
        oneOrderForABar();
        oneBarForAnOrder();
        noBars();
        asManyAsCanBe();
        eightOfEight();
        firstOrderIsMet();
        firstThatDiffers();
        lowerBar();
        lowerBarOfTheFirstOrder();
        lowerBarThoughAnotherGoes();
        lowerBarNotIfFewer();
        forgingChangesMet();
        metOfNoOrder();
        wantOfNoOrders();
        wantIsNone();
        wantOfOne();
        wantOfTheLast();
        wantOfTwo();
        wantIsTheLeast();
        wantOfEight();
        clearNothing();
        clearEight();
        clearedNumbers();
        DUE.finish();
    }

    /** A clean bar of so much iron for a positive number, one of SORT 1 (12 at most) for a negative one. */
    private static BogForge bars(int... iron) {
        BogForge x = Kit.works();
        Kit.pureIron(x, 0);
        for (int kilograms : iron) {
            if (kilograms > 0) {
                Kit.cleanBar(x, kilograms);
            } else {
                Kit.scorchedBar(x, -kilograms, 4);
            }
        }
        DUE.is("BARS", x.count(2), iron.length);
        return x;
    }

    private static void met(String when, BogForge x, int... due) {
        int sum = 0;
        for (int i = 0; i < due.length; i++) {
            DUE.is(when + ": met(" + i + ")", x.met(i), due[i]);
            sum += due[i] == -1 ? 0 : 1;
        }
        DUE.is(when + ": how many", x.count(6), sum);
    }

    private static void thereAreEight() {
        DUE.sentence("ORDERS (8 at most); order, NONE: there are eight");
        BogForge x = bars(1);
        for (int i = 0; i < 7; i++) {
            x.order(0, 2);
        }
        DUE.is("the eighth", x.order(0, 1), 7);
        DUE.is("the ninth", x.order(0, 0), -1);
        DUE.is("ORDERS", x.count(5), 8);
        met("the eighth is", x, -1, -1, -1, -1, -1, -1, -1, 0);
        DUE.is("there is no ninth", x.met(8), -1);
    }

    private static void orderSort() {
        DUE.sentence("order, NONE: SORT not 0 .. 2");
        BogForge x = new BogForge();
        for (int sort : new int[] {-1, 3, LEAST, GREATEST}) {
            DUE.is("order(" + sort + ", 0)", x.order(sort, 0), -1);
        }
        DUE.is("ORDERS", x.count(5), 0);
        for (int sort = 0; sort <= 2; sort++) {
            DUE.is("order(" + sort + ", 0)", x.order(sort, 0), sort);
        }
    }

    private static void orderLeast() {
        DUE.sentence("order, NONE: least not 0 .. 100,000");
        BogForge x = new BogForge();
        for (int least : new int[] {-1, 100_001, LEAST, GREATEST}) {
            DUE.is("order(0, " + least + ")", x.order(0, least), -1);
        }
        DUE.is("ORDERS", x.count(5), 0);
        DUE.is("0", x.order(0, 0), 0);
        DUE.is("100,000", x.order(0, 100_000), 1);
    }

    private static void refusedOrders() {
        DUE.sentence("order, NONE, and no ORDER is changed");
        BogForge x = bars(5, 6);
        x.order(0, 6);
        x.order(3, 0);
        x.order(0, -1);
        x.order(0, 5);
        DUE.is("ORDERS", x.count(5), 2);
        met("as told", x, 1, 0);
        DUE.is("want()", x.want(), 0);
    }

    private static void sortAtMost() {
        DUE.sentence("ORDERS want a BAR of a SORT at most");
        int[] scorch = {0, 1, 11};
        for (int sort = 0; sort <= 2; sort++) {
            BogForge x = Kit.works();
            Kit.pureIron(x, 0);
            Kit.scorchedBar(x, 12, scorch[sort]);
            for (int most = 0; most <= 2; most++) {
                x.clear();
                x.order(most, 12);
                DUE.is("SORT " + sort + " for " + most, x.met(0), sort <= most ? 0 : -1);
                DUE.is("WANT of it", x.want(), sort <= most ? 0 : 1);
            }
        }
    }

    private static void leastOfSoMany() {
        DUE.sentence("with least iron of so many at least");
        BogForge x = bars(50);
        int[] least = {0, 49, 50, 51, 100_000};
        for (int asked : least) {
            x.clear();
            x.order(0, asked);
            DUE.is("50 for " + asked, x.met(0), asked <= 50 ? 0 : -1);
            DUE.is("WANT of it", x.want(), asked <= 50 ? 0 : 1);
        }
        BogForge none = Kit.works();
        none.test(0, 0, 0);
        Kit.cleanBar(none, 5);
        none.order(0, 0);
        none.order(0, 1);
        met("0 for 0, not for 1", none, 0, -1);
    }

    private static void greatestPlaysNoPart() {
        DUE.sentence("with least iron of so many at least, not greatest");
        BogForge x = Kit.works();
        x.test(0, 500, 1_000);
        Kit.cleanBar(x, 10);
        x.order(0, 5);
        DUE.is("5", x.met(0), 0);
        x.clear();
        x.order(0, 6);
        DUE.is("6", x.met(0), -1);
    }

    private static void oneOrderForABar() {
        DUE.sentence("a BAR meets one ORDER at most");
        BogForge x = bars(5);
        x.order(0, 0);
        x.order(0, 0);
        met("the first alone", x, 0, -1);
        DUE.is("want()", x.want(), 3);
    }

    private static void oneBarForAnOrder() {
        DUE.sentence("an ORDER wants a BAR: more BARS than ORDERS");
        BogForge x = bars(5, 6, 7);
        x.order(0, 0);
        met("one", x, 0);
        x.order(0, 6);
        met("two", x, 0, 1);
        x.order(0, 6);
        met("three", x, 0, 1, 2);
    }

    private static void noBars() {
        DUE.sentence("met, NONE: none, there are no BARS");
        BogForge x = new BogForge();
        for (int i = 0; i < 8; i++) {
            x.order(2, 0);
        }
        met("none", x, -1, -1, -1, -1, -1, -1, -1, -1);
        DUE.is("want()", x.want(), 1);
    }

    private static void asManyAsCanBe() {
        DUE.sentence("MET are told: as many as can be");
        BogForge x = bars(3, 2, 1);
        x.order(0, 1);
        x.order(0, 2);
        x.order(0, 3);
        met("each moves on", x, 2, 1, 0);
        x.clear();
        x.order(0, 3);
        x.order(0, 4);
        x.order(0, 1);
        met("one of three can't be", x, 0, -1, 1);
        BogForge y = bars(-1, 2, -3);
        y.order(1, 1);
        y.order(1, 2);
        y.order(0, 1);
        met("by SORT and iron", y, 0, 2, 1);
    }

    private static void eightOfEight() {
        DUE.sentence("as many as can be: eight of eight BARS");
        BogForge x = bars(8, 7, 6, 5, 4, 3, 2, 1);
        for (int i = 1; i <= 8; i++) {
            x.order(0, i);
        }
        met("the last BAR for the first", x, 7, 6, 5, 4, 3, 2, 1, 0);
        DUE.is("want()", x.want(), 0);
    }

    private static void firstOrderIsMet() {
        DUE.sentence("of several ways the one in which the first ORDER that differs is met rather than not");
        BogForge x = bars(5);
        x.order(0, 6);
        x.order(0, 1);
        x.order(0, 5);
        met("the second, not the third", x, -1, 0, -1);
    }

    private static void firstThatDiffers() {
        DUE.sentence("the first ORDER that differs: others are alike");
        BogForge x = bars(5, 3);
        x.order(0, 5);
        x.order(0, 4);
        x.order(0, 3);
        x.order(0, 2);
        met("two of four", x, 0, -1, 1, -1);
        BogForge y = bars(5, 3);
        y.order(0, 3);
        y.order(0, 5);
        y.order(0, 4);
        met("two of three", y, 1, 0, -1);
    }

    private static void lowerBar() {
        DUE.sentence("then by the lower BAR");
        BogForge x = bars(1, 5, 6, 5);
        x.order(0, 5);
        met("the lowest of three", x, 1);
        x.order(0, 5);
        met("the next for the second", x, 1, 2);
        x.order(0, 5);
        met("the last for the third", x, 1, 2, 3);
        x.order(0, 0);
        met("the one that no other can have", x, 1, 2, 3, 0);
    }

    private static void lowerBarOfTheFirstOrder() {
        DUE.sentence("then by the lower BAR: of the first ORDER that differs");
        BogForge x = bars(5, 6, 7);
        x.order(0, 5);
        x.order(0, 6);
        x.order(0, 0);
        met("0, 1, 2", x, 0, 1, 2);
        x.clear();
        x.order(0, 0);
        x.order(0, 6);
        x.order(0, 5);
        met("0, 1, 2 again", x, 0, 1, 2);
    }

    private static void lowerBarThoughAnotherGoes() {
        DUE.sentence("as many as can be, the first ORDER that differs: the lower BAR though a later ORDER goes without");
        BogForge x = bars(5, -10);
        x.order(1, 5);
        x.order(0, 5);
        x.order(1, 10);
        met("two of three either way", x, 0, -1, 1);
    }

    private static void lowerBarNotIfFewer() {
        DUE.sentence("as many as can be, ahead of the lower BAR");
        BogForge x = bars(5, -10);
        x.order(1, 5);
        x.order(0, 5);
        met("both", x, 1, 0);
    }

    private static void forgingChangesMet() {
        DUE.sentence("a BAR of a SORT at most, with least iron: as it is now");
        BogForge x = bars(-12);
        x.order(0, 10);
        met("SORT 1", x, -1);
        DUE.is("forge(0, 1)", x.forge(0, 1), 1);
        met("SORT 1 by one HEAT", x, -1);
        DUE.is("forge(0, 1)", x.forge(0, 1), 0);
        DUE.is("least iron", x.bar(0, 0), 10);
        met("SORT 0 by two", x, 0);
        DUE.is("want()", x.want(), 0);
        DUE.is("forge(0, 1)", x.forge(0, 1), 0);
        met("9 by three", x, -1);
        DUE.is("want()", x.want(), 1);
    }

    private static void metOfNoOrder() {
        DUE.sentence("met, NONE: no such ORDER");
        BogForge x = bars(5);
        DUE.is("without ORDERS", x.met(0), -1);
        x.order(0, 0);
        for (int order : new int[] {-1, 1, 7, 8, LEAST, GREATEST}) {
            DUE.is("met(" + order + ")", x.met(order), -1);
        }
        DUE.is("met(0)", x.met(0), 0);
    }

    private static void wantOfNoOrders() {
        DUE.sentence("WANT; 0: all are MET, for there are none");
        DUE.is("a new object", new BogForge().want(), 0);
        BogForge x = bars(5);
        DUE.is("a BAR alone", x.want(), 0);
        DUE.is("how many", x.count(6), 0);
    }

    private static void wantIsNone() {
        DUE.sentence("WANT; 0: all are MET");
        BogForge x = bars(5, 5);
        x.order(0, 5);
        DUE.is("one", x.want(), 0);
        x.order(0, 5);
        DUE.is("two", x.want(), 0);
        x.order(0, 5);
        DUE.is("three of two", x.want(), 7);
    }

    private static void wantOfOne() {
        DUE.sentence("WANT: ORDERS that no BAR could have");
        BogForge x = bars(5, 5, 5);
        x.order(0, 5);
        x.order(0, 6);
        DUE.is("the second", x.want(), 2);
        x.order(0, 7);
        DUE.is("the second, less than the third", x.want(), 2);
    }

    private static void wantOfTheLast() {
        DUE.sentence("WANT is the least set of ORDERS (bits): the eighth's");
        BogForge x = bars(5, 5, 5, 5, 5, 5, 5, 5);
        for (int i = 0; i < 7; i++) {
            x.order(0, 5);
        }
        x.order(0, 6);
        DUE.is("want()", x.want(), 128);
        DUE.is("how many", x.count(6), 7);
    }

    private static void wantOfTwo() {
        DUE.sentence("WANT: more than the BARS that any of them could have");
        BogForge x = bars(5, 9);
        x.order(0, 5);
        x.order(0, 9);
        DUE.is("two and two", x.want(), 0);
        x.order(0, 9);
        DUE.is("two of one", x.want(), 6);
        x.clear();
        x.order(0, 9);
        x.order(0, 5);
        x.order(0, 9);
        DUE.is("the first and the third", x.want(), 5);
    }

    private static void wantIsTheLeast() {
        DUE.sentence("WANT is the least set");
        BogForge x = bars(5);
        x.order(0, 5);
        x.order(0, 5);
        x.order(0, 6);
        DUE.is("3 is less than 4", x.want(), 3);
        x.clear();
        x.order(0, 5);
        x.order(0, 6);
        x.order(0, 5);
        DUE.is("2 is less than 5", x.want(), 2);
    }

    private static void wantOfEight() {
        DUE.sentence("WANT: all eight");
        BogForge x = bars(5, 5, 5, 5, 5, 5, 5);
        for (int i = 0; i < 8; i++) {
            x.order(0, 5);
        }
        DUE.is("eight of seven", x.want(), 255);
        DUE.is("how many", x.count(6), 7);
        met("the last is not", x, 0, 1, 2, 3, 4, 5, 6, -1);
        Kit.cleanBar(x, 5);
        DUE.is("eight of eight", x.want(), 0);
    }

    private static void clearNothing() {
        DUE.sentence("All ORDERS are gone: there were none");
        BogForge x = new BogForge();
        x.clear();
        DUE.is("ORDERS", x.count(5), 0);
        DUE.is("want()", x.want(), 0);
        DUE.is("order(0, 0)", x.order(0, 0), 0);
    }

    private static void clearEight() {
        DUE.sentence("All ORDERS are gone: eight");
        BogForge x = bars(5);
        for (int i = 0; i < 8; i++) {
            x.order(0, i);
        }
        x.clear();
        DUE.is("ORDERS", x.count(5), 0);
        DUE.is("MET", x.count(6), 0);
        DUE.is("want()", x.want(), 0);
        for (int i = 0; i < 8; i++) {
            DUE.is("met(" + i + ")", x.met(i), -1);
        }
        for (int i = 0; i < 8; i++) {
            DUE.is("room for eight", x.order(2, 6), i);
        }
        DUE.is("and no ninth", x.order(2, 6), -1);
    }

    private static void clearedNumbers() {
        DUE.sentence("All ORDERS are gone: the next is the first");
        BogForge x = bars(5);
        x.order(0, 0);
        x.order(0, 0);
        x.clear();
        DUE.is("order(0, 6)", x.order(0, 6), 0);
        met("as told now", x, -1);
        DUE.is("there is no second", x.met(1), -1);
        DUE.is("WANT of the first alone", x.want(), 1);
    }
}
