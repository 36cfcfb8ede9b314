/** Promises 21 to 25: rights, pay, parting anew, lines and coins. */
public final class MoneyTest {
    private static final Due DUE = new Due("MoneyTest");

    public static void main(String[] args) {
        right();
        inForce();
        pay();
        payIsParted();
        sixtyPays();
        again();
        againInLaterYears();
        line();
        manyLines();
        DUE.finish();
    }

    /** Bar 0 has 6 kilograms of bog 0 and 3 of bog 1. */
    private static BogForge mixed() {
        BogForge x = new BogForge();
        x.bog(1_000, 0, 0);
        x.bog(1_000, 0, 0);
        x.dig(0, 600);
        x.dig(1, 300);
        x.coal(0, 10_000);
        Kit.cleanBar(x, 9);
        return x;
    }

    private static void right() {
        BogForge x = mixed();
        int[][] wrong = {{-1, 0, 1, 0}, {2, 0, 1, 0}, {0, -1, 1, 0}, {0, 8, 1, 0}, {0, 0, -1, 0}, {0, 0, 101, 0},
            {0, 0, 1, -1}, {0, 0, 1, 201}, {12, 0, 1, 0}, {0, 0, Integer.MAX_VALUE, 0}, {0, 0, 1, Integer.MIN_VALUE}};
        for (int[] w : wrong) {
            DUE.no("right(" + w[0] + ", " + w[1] + ", " + w[2] + ", " + w[3] + ")", x.right(w[0], w[1], w[2], w[3]));
        }
        DUE.yes("least", x.right(0, 0, 0, 0));
        DUE.yes("greatest", x.right(1, 7, 100, 200));
        for (int i = 2; i < 100; i++) {
            DUE.yes("right " + i, x.right(0, 5, i, 0));
        }
        DUE.no("100 were told", x.right(0, 0, 1, 0));
        DUE.is("pay", x.pay(0, 10), 0);
        DUE.is("the hundredth holds", x.coins(5), 10);
    }

    private static void inForce() {
        BogForge x = mixed();
        x.year();
        x.year();
        x.right(0, 1, 10, 3);
        x.right(1, 1, 10, 4);
        x.pay(0, 100);
        DUE.is("from a later year on: not yet", x.coins(0), 100);
        x.right(0, 2, 50, 1);
        x.right(0, 2, 20, 2);
        x.right(0, 2, 70, 0);
        x.right(0, 3, 30, 2);
        x.right(0, 3, 60, 2);
        x.pay(0, 80);
        DUE.is("the greatest year up to NOW", x.coins(2), 20);
        DUE.is("of several the last told", x.coins(3), 60);
        x.right(0, 3, 0, 2);
        x.pay(0, 80);
        DUE.is("parts of 0 are none", x.coins(3), 60);
        DUE.is("so the other has all", x.coins(2), 100);
        x.year();
        x.pay(0, 300);
        DUE.is("in the year itself: a third", x.coins(1), 100);
        DUE.is("and two thirds", x.coins(2), 300);
    }

    private static void pay() {
        BogForge x = mixed();
        DUE.is("no such bar", x.pay(1, 10), -1);
        DUE.is("bar -1", x.pay(-1, 10), -1);
        DUE.is("0 coins", x.pay(0, 0), -1);
        DUE.is("1,000,001 coins", x.pay(0, 1_000_001), -1);
        DUE.is("-1 coins", x.pay(0, -1), -1);
        DUE.is("PAYS", x.count(3), 0);
        DUE.is("LINES", x.count(4), 0);
        DUE.is("1 coin", x.pay(0, 1), 0);
        DUE.is("without rights holder 0 has all", x.coins(0), 1);
        DUE.is("1,000,000 coins", x.pay(0, 1_000_000), 1);
        DUE.is("holder 0 again", x.coins(0), 1_000_001);
        DUE.is("one line each", x.count(4), 2);
        x.right(0, 6, 1, 0);
        DUE.is("rights told later", x.pay(0, 5), 2);
        DUE.is("holder 6 has all", x.coins(6), 5);
        DUE.is("holder 0 no more", x.coins(0), 1_000_001);
    }

    private static void payIsParted() {
        BogForge x = mixed();
        x.right(0, 1, 50, 0);
        x.right(1, 1, 100, 0);
        x.right(0, 4, 25, 0);
        x.right(1, 6, 50, 0);
        x.right(0, 7, 50, 0);
        // Measures: holder 1 600, holder 4 150, holder 6 150, holder 7 300; together 1200.
        // 1001 coins: 500 rest 600, 125 rest 150, 125 rest 150, 250 rest 300: one is left, for holder 1.
        x.pay(0, 1_001);
        int[] due = {0, 501, 0, 0, 125, 0, 125, 250};
        for (int i = 0; i < 8; i++) {
            DUE.is("coins(" + i + ")", x.coins(i), due[i]);
        }
        DUE.is("lines for those with coins", x.count(4), 4);
        int[] holders = {1, 4, 6, 7};
        for (int i = 0; i < 4; i++) {
            DUE.is("line's holder", x.line(i, 2), holders[i]);
            DUE.is("line's coins", x.line(i, 3), due[holders[i]]);
        }
        // 2 coins: 1 rest 0, 0 rest 300, 0 rest 300, 0 rest 600: one is left, for holder 7.
        x.pay(0, 2);
        DUE.is("two lines", x.count(4), 6);
        DUE.is("holder 1", x.coins(1), 502);
        DUE.is("holder 4 has none", x.coins(4), 125);
        DUE.is("holder 7", x.coins(7), 251);
        // 12 coins: 6, 1 rest 600, 1 rest 600, 3: of alike rests the lowest.
        x.pay(0, 12);
        DUE.is("holder 4 of 12", x.coins(4), 127);
        DUE.is("holder 6 of 12", x.coins(6), 126);
        BogForge y = mixed();
        y.bog(10, 0, 0);
        y.dig(2, 1);
        y.charge(892, 1_000);
        Kit.rules(y, Kit.STEADY);
        y.blow(400);
        y.draw();
        DUE.is("a bar with a single kilogram of a bog", y.part(1, 2), 1);
        y.right(2, 3, 1, 0);
        y.pay(1, 9);
        DUE.is("its holder has all", y.coins(3), 9);
        for (int other : new int[] {-1, 8, Integer.MIN_VALUE, Integer.MAX_VALUE}) {
            DUE.is("coins(" + other + ")", x.coins(other), 0);
        }
    }

    private static void sixtyPays() {
        BogForge x = mixed();
        for (int i = 0; i < 60; i++) {
            DUE.is("pay", x.pay(0, 1_000_000), i);
        }
        DUE.is("there are 60", x.pay(0, 1), -1);
        DUE.is("coins", x.coins(0), 60_000_000);
        DUE.is("LINES", x.count(4), 60);
        DUE.is("again(59)", x.again(59), 0);
        DUE.is("again(60)", x.again(60), -1);
    }

    private static void again() {
        BogForge x = mixed();
        DUE.is("no such", x.again(0), -1);
        DUE.is("-1", x.again(-1), -1);
        x.pay(0, 100);
        x.pay(0, 50);
        DUE.is("nothing new", x.again(0), 0);
        DUE.is("no such", x.again(2), -1);
        DUE.is("least", x.again(Integer.MIN_VALUE), -1);
        x.right(0, 2, 30, 0);
        x.right(1, 3, 20, 0);
        // Measures: holder 2 180, holder 3 60.
        DUE.is("three differences", x.again(0), 3);
        DUE.is("LINES", x.count(4), 5);
        int[][] due = {{0, 0, 0, -100}, {0, 0, 2, 75}, {0, 0, 3, 25}};
        for (int i = 0; i < 3; i++) {
            for (int what = 0; what < 4; what++) {
                DUE.is("line(" + (2 + i) + ", " + what + ")", x.line(2 + i, what), due[i][what]);
            }
        }
        DUE.is("the other PAY stays", x.coins(0), 50);
        DUE.is("at once again", x.again(0), 0);
        DUE.is("the other one", x.again(1), 3);
        DUE.is("coins(0)", x.coins(0), 0);
        DUE.is("38 of 37 rest 120 and 12 rest 120", x.coins(2), 75 + 38);
        DUE.is("coins(3)", x.coins(3), 25 + 12);
        x.right(0, 2, 0, 0);
        x.right(1, 3, 0, 0);
        DUE.is("all 0: back to holder 0", x.again(1), 3);
        DUE.is("coins(0)", x.coins(0), 50);
        DUE.is("by what the holder has so far", x.coins(2), 75);
    }

    private static void againInLaterYears() {
        BogForge x = mixed();
        x.right(0, 1, 10, 0);
        x.year();
        x.year();
        x.pay(0, 100);
        x.year();
        x.right(0, 4, 10, 3);
        DUE.is("a right from after the PAY's year on", x.again(0), 0);
        x.right(0, 5, 30, 2);
        DUE.is("one from the PAY's year on, told later", x.again(0), 2);
        DUE.is("made in", x.line(1, 0), 3);
        DUE.is("the PAY's own line", x.line(0, 0), 2);
        DUE.is("coins(1)", x.coins(1), 25);
        DUE.is("coins(5)", x.coins(5), 75);
        x.right(0, 5, 10, 1);
        DUE.is("an older right told later", x.again(0), 0);
        x.right(0, 5, 10, 2);
        DUE.is("the same year told anew", x.again(0), 2);
        DUE.is("coins(5)", x.coins(5), 50);
        DUE.is("a new PAY goes by its own year", x.pay(0, 99), 1);
        DUE.is("coins(4)", x.coins(4), 33);
    }

    private static void line() {
        BogForge x = mixed();
        x.right(0, 3, 10, 0);
        x.pay(0, 10);
        x.year();
        x.pay(0, 20);
        int[] due = {1, 1, 3, 20};
        for (int what = 0; what < 4; what++) {
            DUE.is("line(1, " + what + ")", x.line(1, what), due[what]);
        }
        int[] others = {-1, 4, Integer.MIN_VALUE, Integer.MAX_VALUE};
        for (int other : others) {
            DUE.is("line(1, " + other + ")", x.line(1, other), 0);
            DUE.is("line(" + (other == 4 ? 2 : other) + ", 3)", x.line(other == 4 ? 2 : other, 3), 0);
        }
    }

    /** As many lines as calls can make: each PAY has eight holders with coins, then each parting changes all. */
    private static void manyLines() {
        BogForge x = mixed();
        for (int holder = 0; holder < 8; holder++) {
            x.right(0, holder, 10, 0);
        }
        for (int i = 0; i < 60; i++) {
            x.pay(0, 800);
        }
        DUE.is("LINES", x.count(4), 480);
        int lines = 480;
        for (int round = 1; round <= 5; round++) {
            x.right(0, round, 10 + round, 0);
            for (int i = 0; i < 60; i++) {
                lines += x.again(i);
            }
        }
        DUE.is("LINES", x.count(4), lines);
        DUE.yes("far more than at first", lines > 1_500);
        int all = 0;
        for (int holder = 0; holder < 8; holder++) {
            all += x.coins(holder);
        }
        DUE.is("all coins", all, 48_000);
        DUE.is("the last line's PAY", x.line(lines - 1, 1), 59);
        DUE.is("none after it", x.line(lines, 1), 0);
    }
}
