/** Each sentence on RIGHTS, PAYS and LINES that names a boundary: promises 21 to 25. */
public final class EdgeMoneyTest {
    private static final Due DUE = new Due("EdgeMoneyTest");
    private static final int LEAST = Integer.MIN_VALUE;
    private static final int GREATEST = Integer.MAX_VALUE;

    public static void main(String[] args) {
        rightInNoBog();
        rightOfHolders();
        rightOfParts();
        rightFromAYear();
        hundredRights();
        refusedRightsAreNotCounted();
        partsAtFirst();
        greatestYearUpToIt();
        yearsAheadOfAllPays();
        theOneToldLast();
        partsOfZero();
        rightOfOneBogAlone();
        payForNoBar();
        payCoins();
        payMostCoins();
        thereAreSixty();
        allAreZero();
        oneCoin();
        onePartOfMany();
        linesOfThoseWithCoins();
        alikeHolders();
        payOfAnEarlierYear();
        againOfNoPay();
        againWithoutDifferences();
        againWithDifferences();
        againFromZeroAndBack();
        againOfRightsFromLaterYears();
        againByAllLinesSoFar();
        againAfterSixty();
        lineWithout();
        lineOfOthers();
        manyLines();
        coinsOfOthers();
        coinsByAllLines();
        DUE.finish();
    }

    /** BAR 0 has 6 kilograms of BOG 0 and 3 of BOG 1; BOG 2 is in no BAR. */
    private static BogForge mixed() {
        BogForge x = new BogForge();
        x.bog(1_000, 0, 0);
        x.bog(1_000, 0, 0);
        x.bog(1_000, 0, 0);
        x.dig(0, 600);
        x.dig(1, 300);
        x.coal(0, 500);
        Kit.rules(x, Kit.FULL);
        x.charge(9, 9 * 14);
        x.blow(14);
        x.draw();
        return x;
    }

    private static void years(BogForge x, int n) {
        for (int i = 0; i < n; i++) {
            x.year();
        }
    }

    private static void allCoins(String when, BogForge x, int... due) {
        for (int holder = 0; holder < 8; holder++) {
            DUE.is(when + ": coins(" + holder + ")", x.coins(holder), holder < due.length ? due[holder] : 0);
        }
    }

    private static void rightInNoBog() {
        DUE.sentence("RIGHTS in a BOG; right, False: out of bounds, BOGS");
        BogForge x = new BogForge();
        DUE.no("without bogs", x.right(0, 0, 1, 0));
        x.bog(1, 0, 0);
        for (int bog : new int[] {-1, 1, 11, 12, LEAST, GREATEST}) {
            DUE.no("right(" + bog + ", 0, 1, 0)", x.right(bog, 0, 1, 0));
        }
        DUE.yes("right(0, 0, 1, 0)", x.right(0, 0, 1, 0));
        for (int i = 1; i < 12; i++) {
            x.bog(1, 0, 0);
        }
        DUE.yes("the twelfth", x.right(11, 0, 1, 0));
        DUE.no("no thirteenth", x.right(12, 0, 1, 0));
    }

    private static void rightOfHolders() {
        DUE.sentence("HOLDERS 0 .. 7; right, False: out of bounds");
        BogForge x = mixed();
        for (int holder : new int[] {-1, 8, LEAST, GREATEST}) {
            DUE.no("right(0, " + holder + ", 1, 0)", x.right(0, holder, 1, 0));
        }
        DUE.yes("0", x.right(0, 0, 1, 0));
        DUE.yes("7", x.right(0, 7, 1, 0));
        x.pay(0, 2);
        allCoins("one each", x, 1, 0, 0, 0, 0, 0, 0, 1);
    }

    private static void rightOfParts() {
        DUE.sentence("parts (0 .. 100); right, False: out of bounds");
        BogForge x = mixed();
        for (int parts : new int[] {-1, 101, LEAST, GREATEST}) {
            DUE.no("right(0, 1, " + parts + ", 0)", x.right(0, 1, parts, 0));
        }
        DUE.yes("0", x.right(0, 1, 0, 0));
        DUE.yes("1", x.right(0, 2, 1, 0));
        DUE.yes("100", x.right(0, 3, 100, 0));
        x.pay(0, 101);
        allCoins("by parts", x, 0, 0, 1, 100);
    }

    private static void rightFromAYear() {
        DUE.sentence("from a YEAR on (0 .. 200). False: out of bounds");
        BogForge x = mixed();
        for (int from : new int[] {-1, 201, LEAST, GREATEST}) {
            DUE.no("right(0, 1, 1, " + from + ")", x.right(0, 1, 1, from));
        }
        DUE.yes("200", x.right(0, 2, 1, 200));
        DUE.yes("0", x.right(0, 3, 1, 0));
        x.pay(0, 10);
        allCoins("the one from 0 alone", x, 0, 0, 0, 10);
    }

    private static void hundredRights() {
        DUE.sentence("right, False: 100 were told");
        BogForge x = mixed();
        for (int i = 1; i <= 99; i++) {
            DUE.yes("right " + i, x.right(0, 1, 1, 200));
        }
        DUE.yes("the hundredth", x.right(0, 4, 1, 0));
        DUE.no("the next", x.right(0, 5, 1, 0));
        DUE.no("one that was told already", x.right(0, 4, 1, 0));
        DUE.no("one that ends another", x.right(0, 4, 0, 0));
        x.pay(0, 10);
        allCoins("the hundredth is IN FORCE, none after it", x, 0, 0, 0, 0, 10);
    }

    private static void refusedRightsAreNotCounted() {
        DUE.sentence("right, False: 100 were told; refused ones were not");
        BogForge x = mixed();
        for (int i = 0; i < 100; i++) {
            DUE.no("refused", x.right(0, 1, 101, 0));
        }
        for (int i = 0; i < 100; i++) {
            DUE.yes("told", x.right(0, 2, 1, 0));
        }
        DUE.no("the next", x.right(0, 2, 1, 0));
        x.pay(0, 10);
        allCoins("no refused one is IN FORCE", x, 0, 0, 10);
    }

    private static void partsAtFirst() {
        DUE.sentence("parts (0 at first)");
        BogForge x = mixed();
        x.right(1, 5, 1, 0);
        x.pay(0, 77);
        allCoins("those without RIGHTS have no parts", x, 0, 0, 0, 0, 0, 77);
    }

    private static void greatestYearUpToIt() {
        DUE.sentence("IN FORCE: of those told the one from the greatest YEAR up to it");
        BogForge x = mixed();
        x.right(0, 1, 10, 0);
        x.right(0, 2, 10, 0);
        x.right(0, 1, 30, 3);
        x.right(0, 1, 20, 2);
        years(x, 1);
        x.pay(0, 20);
        allCoins("in 1 the one from 0", x, 0, 10, 10);
        years(x, 1);
        x.pay(0, 30);
        allCoins("in 2 the one from 2", x, 0, 30, 20);
        years(x, 1);
        x.pay(0, 40);
        allCoins("in 3 the one from 3", x, 0, 60, 30);
        years(x, 1);
        x.pay(0, 40);
        allCoins("in 4 the one from 3", x, 0, 90, 40);
    }

    private static void yearsAheadOfAllPays() {
        DUE.sentence("up to it: YEAR 100, and those that never come");
        BogForge x = mixed();
        x.right(0, 1, 10, 100);
        x.right(0, 2, 10, 101);
        x.right(0, 3, 10, 200);
        years(x, 99);
        x.pay(0, 10);
        allCoins("in 99 none", x, 10);
        years(x, 1);
        x.pay(0, 10);
        allCoins("in 100 the one from 100", x, 10, 10);
    }

    private static void theOneToldLast() {
        DUE.sentence("(of several the one told last)");
        BogForge x = mixed();
        x.right(0, 1, 90, 0);
        x.right(0, 1, 10, 0);
        x.right(0, 1, 30, 0);
        x.right(0, 2, 10, 0);
        x.pay(0, 40);
        allCoins("the third of three", x, 0, 30, 10);
        years(x, 2);
        x.right(0, 1, 20, 2);
        x.right(0, 1, 70, 1);
        x.pay(0, 30);
        allCoins("not the one told last of a lesser YEAR", x, 0, 50, 20);
    }

    private static void partsOfZero() {
        DUE.sentence("parts (0 ..): told to be 0");
        BogForge x = mixed();
        x.right(0, 1, 10, 0);
        x.right(0, 2, 10, 0);
        x.right(0, 1, 0, 1);
        x.pay(0, 10);
        allCoins("not yet", x, 0, 5, 5);
        years(x, 1);
        x.pay(0, 10);
        allCoins("holder 1 has none now", x, 0, 5, 15);
    }

    private static void rightOfOneBogAlone() {
        DUE.sentence("by the sum, over BOGS, of the BAR's ORE times parts");
        BogForge x = mixed();
        x.right(0, 1, 50, 0);
        x.right(1, 1, 100, 0);
        x.right(1, 2, 100, 0);
        x.right(2, 3, 100, 0);
        x.pay(0, 9);
        allCoins("600, 300 and 0 of a BOG in no BAR", x, 0, 6, 3);
    }

    private static void payForNoBar() {
        DUE.sentence("pay, NONE: no such BAR");
        BogForge x = new BogForge();
        DUE.is("without bars", x.pay(0, 1), -1);
        x = mixed();
        for (int bar : new int[] {-1, 1, 99, 100, LEAST, GREATEST}) {
            DUE.is("pay(" + bar + ", 1)", x.pay(bar, 1), -1);
        }
        DUE.is("PAYS", x.count(3), 0);
        DUE.is("LINES", x.count(4), 0);
        DUE.is("pay(0, 1)", x.pay(0, 1), 0);
    }

    private static void payCoins() {
        DUE.sentence("PAY (1 .. 1,000,000 coins). NONE: out of bounds");
        BogForge x = mixed();
        for (int coins : new int[] {0, -1, 1_000_001, LEAST, GREATEST}) {
            DUE.is("pay(0, " + coins + ")", x.pay(0, coins), -1);
        }
        DUE.is("PAYS", x.count(3), 0);
        DUE.is("LINES", x.count(4), 0);
        allCoins("none", x);
        DUE.is("1", x.pay(0, 1), 0);
        DUE.is("1,000,000", x.pay(0, 1_000_000), 1);
        allCoins("both", x, 1_000_001);
    }

    private static void payMostCoins() {
        DUE.sentence("PAY: 1,000,000 coins times great measures");
        BogForge x = Kit.works();
        x.coal(0, 10_000);
        Kit.rules(x, Kit.STEADY);
        for (int i = 0; i < 6; i++) {
            x.charge(5_000, 2_500);
        }
        for (int i = 0; i < 6; i++) {
            x.blow(1_000);
        }
        x.draw();
        DUE.yes("a great BAR", x.bar(0, 5) > 9_000);
        x.right(0, 3, 100, 0);
        x.right(0, 6, 99, 0);
        x.pay(0, 1_000_000);
        // 1,000,000 by 100 and 99 of 199: 502,512 rest 112, 497,487 rest 87.
        allCoins("parted", x, 0, 0, 0, 502_513, 0, 0, 497_487);
    }

    private static void thereAreSixty() {
        DUE.sentence("pay, NONE: there are 60");
        BogForge x = mixed();
        for (int i = 0; i < 59; i++) {
            x.pay(0, 1);
        }
        DUE.is("the sixtieth", x.pay(0, 1), 59);
        DUE.is("the next", x.pay(0, 1), -1);
        DUE.is("PAYS", x.count(3), 60);
        DUE.is("LINES", x.count(4), 60);
        allCoins("one each", x, 60);
    }

    private static void allAreZero() {
        DUE.sentence("if all are 0, HOLDER 0 gets all");
        BogForge x = mixed();
        DUE.is("no RIGHTS at all", x.pay(0, 7), 0);
        x.right(2, 3, 100, 0);
        x.pay(0, 7);
        x.right(0, 3, 100, 1);
        x.pay(0, 7);
        x.right(1, 3, 0, 0);
        x.pay(0, 7);
        allCoins("in another BOG, from a later YEAR, of 0 parts", x, 28);
        DUE.is("a LINE each", x.count(4), 4);
        DUE.is("of HOLDER 0", x.line(3, 2), 0);
        DUE.is("of all", x.line(3, 3), 7);
        x.right(1, 4, 1, 0);
        x.pay(0, 7);
        allCoins("not all are 0", x, 28, 0, 0, 0, 7);
    }

    private static void oneCoin() {
        DUE.sentence("coins PARTED among HOLDERS: 1");
        BogForge x = mixed();
        x.right(0, 2, 5, 0);
        x.right(0, 3, 6, 0);
        x.right(0, 4, 6, 0);
        x.pay(0, 1);
        allCoins("the greatest rest, of alike ones the lowest", x, 0, 0, 0, 1);
        DUE.is("LINES", x.count(4), 1);
    }

    private static void onePartOfMany() {
        DUE.sentence("each gets ..., cut: too little for one coin");
        BogForge x = mixed();
        x.right(0, 0, 1, 0);
        x.right(0, 1, 100, 0);
        x.pay(0, 50);
        // 50 by 1 and 100 of 101: 0 rest 50, 49 rest 51.
        allCoins("the greater rest", x, 0, 50);
        x.pay(0, 51);
        // 51 by 1 and 100 of 101: 0 rest 51, 50 rest 50.
        allCoins("the other's is greater now", x, 1, 100);
    }

    private static void linesOfThoseWithCoins() {
        DUE.sentence("(PAYS make some, too: for each HOLDER with coins)");
        BogForge x = mixed();
        for (int holder = 0; holder < 8; holder++) {
            x.right(0, holder, 10, 0);
        }
        x.pay(0, 8);
        DUE.is("all eight", x.count(4), 8);
        x.pay(0, 7);
        DUE.is("seven", x.count(4), 15);
        for (int i = 0; i < 15; i++) {
            DUE.is("PAY of line " + i, x.line(i, 1), i / 8);
            DUE.is("HOLDER of line " + i, x.line(i, 2), i % 8);
            DUE.is("coins of line " + i, x.line(i, 3), 1);
        }
    }

    private static void alikeHolders() {
        DUE.sentence("of alike rests the lowest number first: HOLDERS");
        BogForge x = mixed();
        for (int holder = 1; holder < 8; holder++) {
            x.right(0, holder, 10, 0);
        }
        x.pay(0, 10);
        allCoins("three are left of ten", x, 0, 2, 2, 2, 1, 1, 1, 1);
    }

    private static void payOfAnEarlierYear() {
        DUE.sentence("parts IN FORCE in that YEAR: of the PAY, not of the BAR");
        BogForge x = mixed();
        x.right(0, 1, 1, 0);
        x.right(0, 1, 0, 5);
        x.right(0, 2, 1, 5);
        years(x, 5);
        x.pay(0, 10);
        allCoins("in 5", x, 0, 0, 10);
        DUE.is("the BAR was drawn in", x.bar(0, 4), 0);
    }

    private static void againOfNoPay() {
        DUE.sentence("again, NONE: no such one");
        BogForge x = mixed();
        DUE.is("without PAYS", x.again(0), -1);
        x.pay(0, 5);
        x.right(0, 3, 1, 0);
        for (int pay : new int[] {-1, 1, 59, 60, LEAST, GREATEST}) {
            DUE.is("again(" + pay + ")", x.again(pay), -1);
        }
        DUE.is("LINES", x.count(4), 1);
        allCoins("as before", x, 5);
        DUE.is("again(0)", x.again(0), 2);
    }

    private static void againWithoutDifferences() {
        DUE.sentence("again: how many LINES that made: 0");
        BogForge x = mixed();
        x.right(0, 1, 10, 0);
        x.pay(0, 5);
        DUE.is("nothing new is known", x.again(0), 0);
        x.right(0, 1, 20, 0);
        DUE.is("it makes no difference", x.again(0), 0);
        x.right(2, 4, 20, 0);
        DUE.is("a BOG in no BAR", x.again(0), 0);
        DUE.is("LINES", x.count(4), 1);
    }

    private static void againWithDifferences() {
        DUE.sentence("LINES with the differences, by HOLDERS");
        BogForge x = mixed();
        for (int holder = 0; holder < 8; holder++) {
            x.right(0, holder, 10, 0);
        }
        x.pay(0, 8);
        x.right(0, 0, 80, 0);
        // 8 by 80 and seven of 10 of 150: 4 rest 40, 0 rest 80: four are left, for HOLDERS 1 to 4.
        DUE.is("those of 0, 5, 6 and 7", x.again(0), 4);
        int[] holders = {0, 5, 6, 7};
        int[] coins = {3, -1, -1, -1};
        for (int i = 0; i < 4; i++) {
            DUE.is("HOLDER", x.line(8 + i, 2), holders[i]);
            DUE.is("coins", x.line(8 + i, 3), coins[i]);
        }
        allCoins("by all LINES", x, 4, 1, 1, 1, 1, 0, 0, 0);
        for (int holder = 0; holder < 4; holder++) {
            x.right(0, holder, 0, 0);
        }
        DUE.is("all eight differ", x.again(0), 8);
        allCoins("2 each for the last four", x, 0, 0, 0, 0, 2, 2, 2, 2);
    }

    private static void againFromZeroAndBack() {
        DUE.sentence("PARTING anew: if all are 0, HOLDER 0 gets all");
        BogForge x = mixed();
        x.pay(0, 9);
        x.right(1, 6, 1, 0);
        DUE.is("from HOLDER 0", x.again(0), 2);
        allCoins("to 6", x, 0, 0, 0, 0, 0, 0, 9);
        x.right(1, 6, 0, 0);
        DUE.is("and back", x.again(0), 2);
        allCoins("to 0", x, 9);
        DUE.is("the LINE's HOLDER", x.line(3, 2), 0);
        DUE.is("the LINE's coins", x.line(3, 3), 9);
        DUE.is("less for 6", x.line(4, 3), -9);
    }

    private static void againOfRightsFromLaterYears() {
        DUE.sentence("IN FORCE in that YEAR, by what is known NOW");
        BogForge x = mixed();
        years(x, 2);
        x.pay(0, 6);
        years(x, 3);
        x.right(0, 1, 10, 3);
        DUE.is("from the YEAR after the PAY's on", x.again(0), 0);
        x.right(0, 1, 10, 2);
        DUE.is("from the PAY's YEAR on", x.again(0), 2);
        DUE.is("the LINE was made in", x.line(1, 0), 5);
        DUE.is("the PAY's own LINE in", x.line(0, 0), 2);
        allCoins("all for 1", x, 0, 6);
    }

    private static void againByAllLinesSoFar() {
        DUE.sentence("LINES with the differences, to all that was parted before");
        BogForge x = mixed();
        x.right(0, 1, 10, 0);
        x.pay(0, 12);
        x.right(0, 2, 10, 0);
        DUE.is("6 go to 2", x.again(0), 2);
        x.right(0, 3, 10, 0);
        DUE.is("2 and 2 go to 3", x.again(0), 3);
        DUE.is("at once again", x.again(0), 0);
        allCoins("four each", x, 0, 4, 4, 4);
        int[] due = {12, -6, 6, -2, -2, 4};
        for (int i = 0; i < due.length; i++) {
            DUE.is("coins of line " + i, x.line(i, 3), due[i]);
        }
    }

    private static void againAfterSixty() {
        DUE.sentence("again: of the first and the last of sixty");
        BogForge x = mixed();
        for (int i = 0; i < 60; i++) {
            x.pay(0, 1 + i);
        }
        x.right(0, 7, 1, 0);
        DUE.is("again(60)", x.again(60), -1);
        DUE.is("again(0)", x.again(0), 2);
        DUE.is("again(59)", x.again(59), 2);
        allCoins("1 and 60", x, 1_830 - 61, 0, 0, 0, 0, 0, 0, 61);
        DUE.is("the last LINE's PAY", x.line(63, 1), 59);
    }

    private static void lineWithout() {
        DUE.sentence("line: 0 without");
        BogForge x = mixed();
        for (int what = 0; what < 4; what++) {
            DUE.is("no LINES", x.line(0, what), 0);
        }
        years(x, 3);
        x.right(0, 4, 1, 0);
        x.pay(0, 2);
        x.pay(0, 5);
        for (int i : new int[] {-1, 2, 63, 64, 4_096, LEAST, GREATEST}) {
            for (int what = 0; what < 4; what++) {
                DUE.is("line(" + i + ", " + what + ")", x.line(i, what), 0);
            }
        }
        int[] due = {3, 1, 4, 5};
        for (int what = 0; what < 4; what++) {
            DUE.is("the last LINE, " + what, x.line(1, what), due[what]);
        }
    }

    private static void lineOfOthers() {
        DUE.sentence("line: 0 for others");
        BogForge x = mixed();
        years(x, 3);
        x.right(0, 4, 1, 0);
        x.pay(0, 2);
        x.pay(0, 5);
        for (int what : new int[] {-1, 4, 5, LEAST, GREATEST}) {
            DUE.is("line(1, " + what + ")", x.line(1, what), 0);
        }
    }

    private static void manyLines() {
        DUE.sentence("LINES: as many as 512 calls can make");
        BogForge x = mixed();
        for (int holder = 0; holder < 8; holder++) {
            x.right(0, holder, 1, 0);
        }
        x.pay(0, 1_000_000);
        int lines = 8;
        // Turn by turn holder 0 has nearly all and nearly nothing, so that all eight shares differ each time.
        for (int turn = 1; turn <= 90; turn++) {
            x.right(0, 0, turn % 2 == 0 ? 1 : 100, 0);
            DUE.is("again(0)", x.again(0), 8);
            lines += 8;
        }
        DUE.is("LINES", x.count(4), lines);
        DUE.is("LINES", lines, 728);
        DUE.is("the last but seven: HOLDER", x.line(720, 2), 0);
        DUE.is("the last: HOLDER", x.line(727, 2), 7);
        DUE.is("line 64", x.line(64, 2), 0);
        DUE.is("line 63", x.line(63, 2), 7);
        DUE.is("none after the last", x.line(728, 3), 0);
        int sum = 0;
        for (int holder = 0; holder < 8; holder++) {
            sum += x.coins(holder);
        }
        DUE.is("all coins", sum, 1_000_000);
    }

    private static void coinsOfOthers() {
        DUE.sentence("coins: 0 for others");
        BogForge x = mixed();
        x.pay(0, 5);
        for (int holder : new int[] {-1, 8, 9, LEAST, GREATEST}) {
            DUE.is("coins(" + holder + ")", x.coins(holder), 0);
        }
        DUE.is("coins(0)", x.coins(0), 5);
        DUE.is("coins(7)", x.coins(7), 0);
    }

    private static void coinsByAllLines() {
        DUE.sentence("Coins of a HOLDER by all LINES: the most there can be");
        BogForge x = mixed();
        x.right(1, 7, 1, 0);
        for (int i = 0; i < 60; i++) {
            x.pay(0, 1_000_000);
        }
        DUE.is("coins(7)", x.coins(7), 60_000_000);
        x.right(1, 7, 0, 0);
        for (int i = 0; i < 60; i++) {
            x.again(i);
        }
        DUE.is("none now", x.coins(7), 0);
        DUE.is("coins(0)", x.coins(0), 60_000_000);
    }
}
