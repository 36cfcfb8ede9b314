import java.util.ArrayList;
import java.util.List;

/**
 * Each refusal (NONE, False) changes nothing: of two objects with the same calls one is asked for what is refused,
 * then both answer alike, at once and as they go on.
 */
public final class EdgeRefusalTest {
    private static final Due DUE = new Due("EdgeRefusalTest");
    private static final int LEAST = Integer.MIN_VALUE;
    private static final int GREATEST = Integer.MAX_VALUE;

    private interface Calls {
        void on(BogForge x);
    }

    public static void main(String[] args) {
        refusedBogs();
        refusedTests();
        refusedDigs();
        refusedCoal();
        refusedYears();
        refusedWaterAndGap();
        refusedBytes();
        refusedRules();
        refusedCharges();
        refusedBlows();
        refusedDraws();
        refusedForging();
        refusedRights();
        refusedPays();
        refusedOrders();
        whatOnlyAsks();
        DUE.finish();
    }

    private static void refused(String sentence, Calls before, Calls wrong) {
        DUE.sentence(sentence + ": nothing is changed");
        BogForge plain = new BogForge();
        BogForge asked = new BogForge();
        before.on(plain);
        before.on(asked);
        wrong.on(asked);
        alike("at once", few(plain), few(asked));
        alike("going on", goOn(plain), goOn(asked));
        alike("all of it", all(plain), all(asked));
    }

    private static void alike(String when, List<Integer> plain, List<Integer> asked) {
        DUE.is(when + ": answers", asked.size(), plain.size());
        for (int i = 0; i < plain.size(); i++) {
            DUE.is(when + ": answer " + i, asked.get(i), plain.get(i));
        }
    }

    private static List<Integer> few(BogForge x) {
        List<Integer> answers = new ArrayList<>();
        for (int what = 0; what <= 9; what++) {
            answers.add(x.count(what));
        }
        for (int what = 0; what <= 8; what++) {
            answers.add(x.furnace(what));
        }
        answers.add(x.fault());
        return answers;
    }

    private static List<Integer> all(BogForge x) {
        List<Integer> answers = few(x);
        for (int bog = 0; bog < 3; bog++) {
            for (int what = 0; what <= 6; what++) {
                answers.add(x.ground(bog, what));
            }
        }
        int bars = x.count(2);
        for (int bar = Math.max(0, bars - 3); bar < bars; bar++) {
            for (int what = 0; what <= 6; what++) {
                answers.add(x.bar(bar, what));
            }
            answers.add(x.part(bar, 0));
            answers.add(x.part(bar, 1));
            answers.add(x.burnt(bar, 0));
            answers.add(x.burnt(bar, 1));
        }
        for (int i = Math.max(0, x.count(4) - 6); i < x.count(4); i++) {
            answers.add(x.line(i, 1) * 8 + x.line(i, 2));
            answers.add(x.line(i, 3));
        }
        for (int holder = 0; holder < 8; holder++) {
            answers.add(x.coins(holder));
        }
        for (int order = 0; order < 3; order++) {
            answers.add(x.met(order));
        }
        answers.add(x.want());
        return answers;
    }

    /** Calls whose answers tell what can't be asked for: WATER, GAP, RULES, RIGHTS, what rests, what was charged. */
    private static List<Integer> goOn(BogForge x) {
        List<Integer> answers = new ArrayList<>();
        answers.add(x.blow(4));
        answers.add(x.furnace(1));
        answers.add(x.furnace(2));
        answers.add(x.furnace(4));
        answers.add(x.coal(0, 300));
        answers.add(x.charge(5, 150) ? 1 : 0);
        answers.add(x.blow(9));
        answers.add(x.furnace(1));
        answers.add(x.furnace(4));
        answers.add(x.furnace(5));
        answers.add(x.blow(7));
        answers.add(x.draw());
        answers.add(x.forge(0, 1));
        answers.add(x.test(1, 350, 650) ? 1 : 0);
        answers.add(x.pay(0, 997));
        answers.add(x.again(0));
        answers.add(x.year());
        for (int bog = 0; bog < 3; bog++) {
            answers.add(x.dig(bog, 1));
        }
        answers.add(x.met(0));
        answers.add(x.order(1, 1));
        answers.add(x.bog(7, 8, 9));
        answers.add(x.right(0, 6, 7, 0) ? 1 : 0);
        answers.add(x.again(0));
        answers.add(x.rules() ? 1 : 0);
        answers.add(x.end(5) ? 1 : 0);
        answers.add(x.rules() ? 1 : 0);
        answers.add(x.blow(2));
        answers.add(x.furnace(2));
        return answers;
    }

    /** A works in which something of each kind is going on. */
    private static void busy(BogForge x) {
        x.bog(9_000, 70, 0);
        x.bog(800, 30, 4);
        x.bog(50, 0, 20);
        x.test(0, 300, 900);
        x.test(1, 400, 600);
        x.dig(0, 500);
        x.dig(1, 200);
        x.coal(0, 2_000);
        x.coal(1, 700);
        Kit.rules(x, Kit.FULL);
        x.charge(20, 190);
        x.blow(17);
        x.draw();
        x.charge(20, 150);
        x.blow(13);
        x.draw();
        x.forge(0, 1);
        x.right(0, 1, 30, 0);
        x.right(1, 2, 50, 0);
        x.pay(0, 101);
        x.year();
        x.right(0, 3, 20, 1);
        x.pay(1, 55);
        x.order(0, 1);
        x.order(1, 2);
        Kit.rules(x, "m=0:6;h<1000:9;h>1249:1;h>999:7");
        x.water(8);
        x.gap(3);
        x.charge(30, 260);
        x.blow(13);
        Kit.feed(x, "m=1:2;m");
    }

    /** The same without anything in THE FURNACE, so that YEARS end. */
    private static void calm(BogForge x) {
        busy(x);
        x.blow(13);
        x.draw();
    }

    private static void refusedBogs() {
        refused("bog, NONE: out of bounds", EdgeRefusalTest::busy, x -> {
            DUE.is("bog", x.bog(-1, 0, 0), -1);
            DUE.is("bog", x.bog(0, 5_001, 0), -1);
            DUE.is("bog", x.bog(0, 0, 21), -1);
        });
        refused("bog, NONE: there are twelve", x -> {
            busy(x);
            for (int i = 3; i < 12; i++) {
                x.bog(i, i, i);
            }
        }, x -> DUE.is("bog", x.bog(1, 1, 1), -1));
    }

    private static void refusedTests() {
        refused("test, False", EdgeRefusalTest::busy, x -> {
            DUE.no("no such BOG", x.test(3, 450, 460));
            DUE.no("no such BOG", x.test(-1, 450, 460));
            DUE.no("out of bounds", x.test(0, -1, 460));
            DUE.no("out of bounds", x.test(0, 450, 1_001));
            DUE.no("b below a", x.test(0, 460, 450));
            DUE.no("nothing in common", x.test(1, 0, 399));
            DUE.no("nothing in common", x.test(1, 601, 1_000));
        });
    }

    private static void refusedDigs() {
        refused("dig, NONE", EdgeRefusalTest::busy, x -> {
            DUE.is("no such BOG", x.dig(3, 1), -1);
            DUE.is("no such BOG", x.dig(-1, 1), -1);
            DUE.is("0", x.dig(0, 0), -1);
            DUE.is("-1", x.dig(0, -1), -1);
            DUE.is("more than ORE", x.dig(2, 51), -1);
            DUE.is("greatest", x.dig(2, GREATEST), -1);
            DUE.is("it rests", x.dig(1, 1), -1);
        });
    }

    private static void refusedCoal() {
        refused("coal, NONE: no such, out of bounds", EdgeRefusalTest::busy, x -> {
            DUE.is("-1", x.coal(-1, 5), -1);
            DUE.is("8", x.coal(8, 5), -1);
            DUE.is("0 kilograms", x.coal(0, 0), -1);
            DUE.is("-1 kilograms", x.coal(0, -1), -1);
            DUE.is("10,001 kilograms", x.coal(0, 10_001), -1);
        });
        refused("coal, NONE: above 1,000,000 then", x -> {
            busy(x);
            for (int i = 0; i < 99; i++) {
                x.coal(1, 10_000);
            }
        }, x -> DUE.is("coal", x.coal(1, 10_000), -1));
    }

    private static void refusedYears() {
        refused("year, NONE: THE FURNACE has something", EdgeRefusalTest::busy, x -> {
            DUE.is("once", x.year(), -1);
            DUE.is("twice", x.year(), -1);
        });
        refused("year, NONE: it is 100", x -> {
            calm(x);
            for (int i = 1; i < 100; i++) {
                x.year();
            }
        }, x -> DUE.is("year", x.year(), -1));
    }

    private static void refusedWaterAndGap() {
        refused("water, False", EdgeRefusalTest::busy, x -> {
            for (int most : new int[] {-1, 10, LEAST, GREATEST}) {
                DUE.no("water(" + most + ")", x.water(most));
            }
        });
        refused("gap, False", EdgeRefusalTest::busy, x -> {
            for (int minutes : new int[] {0, -1, 31, LEAST, GREATEST}) {
                DUE.no("gap(" + minutes + ")", x.gap(minutes));
            }
        });
    }

    private static void refusedBytes() {
        refused("feed, NONE: more than 200", x -> {
            busy(x);
            for (int i = 0; i < 9; i++) {
                Kit.feed(x, ";c<70:3 ;o>12345:6; ");
            }
        }, x -> DUE.is("feed", Kit.feed(x, "m=1:2;m=1:2;m=1"), -1));
        refused("end, False", EdgeRefusalTest::busy, x -> {
            for (int n : new int[] {-1, 8, 200, LEAST, GREATEST}) {
                DUE.no("end(" + n + ")", x.end(n));
            }
        });
    }

    private static void refusedRules() {
        refused("rules, False: a FAULT", EdgeRefusalTest::busy, x -> {
            DUE.no("once", x.rules());
            DUE.no("twice", x.rules());
        });
    }

    private static void refusedCharges() {
        refused("charge, False", EdgeRefusalTest::busy, x -> {
            DUE.no("both 0", x.charge(0, 0));
            DUE.no("ORE -1", x.charge(-1, 5));
            DUE.no("COAL -1", x.charge(5, -1));
            DUE.no("ORE 5,001", x.charge(5_001, 5));
            DUE.no("COAL 5,001", x.charge(5, 5_001));
            DUE.no("more ORE than the YARD's", x.charge(631, 5));
            DUE.no("more COAL than the YARD's", x.charge(5, 2_101));
            DUE.no("wrapping around", x.charge(GREATEST, -GREATEST));
        });
    }

    private static void refusedBlows() {
        refused("blow, NONE: n", EdgeRefusalTest::busy, x -> {
            for (int n : new int[] {-1, 2_001, LEAST, GREATEST}) {
                DUE.is("blow(" + n + ")", x.blow(n), -1);
            }
        });
        refused("blow, NONE: MINUTES would be above 20,000", x -> {
            busy(x);
            for (int i = 0; i < 9; i++) {
                x.blow(2_000);
            }
            x.blow(1_980);
            x.charge(9, 99);
        }, x -> DUE.is("8 where 7 are left", x.blow(8), -1));
    }

    private static void refusedDraws() {
        refused("draw, NONE: no BLOOM", x -> {
            calm(x);
            x.charge(10, 100);
            x.blow(4);
        }, x -> DUE.is("draw", x.draw(), -1));
        refused("draw, NONE: there are 100", x -> {
            x.bog(9_000, 0, 0);
            x.dig(0, 500);
            x.coal(0, 10_000);
            x.coal(0, 2_000);
            Kit.rules(x, Kit.FULL);
            for (int i = 0; i < 101; i++) {
                x.charge(2, 100);
                x.blow(11);
                if (i < 100) {
                    x.draw();
                }
            }
        }, x -> DUE.is("draw", x.draw(), -1));
    }

    private static void refusedForging() {
        refused("forge, NONE", x -> {
            busy(x);
            x.forge(0, 4);
        }, x -> {
            DUE.is("no such BAR", x.forge(2, 1), -1);
            DUE.is("no such BAR", x.forge(-1, 1), -1);
            DUE.is("0", x.forge(0, 0), -1);
            DUE.is("-1", x.forge(0, -1), -1);
            DUE.is("more than 9 in all", x.forge(0, 5), -1);
            DUE.is("wrapping around", x.forge(0, GREATEST), -1);
        });
    }

    private static void refusedRights() {
        refused("right, False: out of bounds", EdgeRefusalTest::busy, x -> {
            DUE.no("BOG 3", x.right(3, 1, 9, 0));
            DUE.no("BOG -1", x.right(-1, 1, 9, 0));
            DUE.no("HOLDER 8", x.right(0, 8, 9, 0));
            DUE.no("HOLDER -1", x.right(0, -1, 9, 0));
            DUE.no("parts 101", x.right(0, 1, 101, 0));
            DUE.no("parts -1", x.right(0, 1, -1, 0));
            DUE.no("from 201", x.right(0, 1, 9, 201));
            DUE.no("from -1", x.right(0, 1, 9, -1));
        });
        refused("right, False: 100 were told", x -> {
            busy(x);
            for (int i = 3; i < 100; i++) {
                x.right(0, i % 8, i, 1 + i % 3);
            }
        }, x -> {
            DUE.no("right", x.right(0, 1, 99, 0));
            DUE.no("right", x.right(0, 1, 0, 1));
        });
    }

    private static void refusedPays() {
        refused("pay, NONE: no such BAR, out of bounds", EdgeRefusalTest::busy, x -> {
            DUE.is("BAR 2", x.pay(2, 5), -1);
            DUE.is("BAR -1", x.pay(-1, 5), -1);
            DUE.is("0 coins", x.pay(0, 0), -1);
            DUE.is("1,000,001 coins", x.pay(0, 1_000_001), -1);
            DUE.is("least", x.pay(0, LEAST), -1);
        });
        refused("pay, NONE: there are 60", x -> {
            busy(x);
            for (int i = 2; i < 60; i++) {
                x.pay(i % 2, 10 + i);
            }
        }, x -> DUE.is("pay", x.pay(0, 5), -1));
        refused("again, NONE: no such one", EdgeRefusalTest::busy, x -> {
            for (int pay : new int[] {-1, 2, 60, LEAST, GREATEST}) {
                DUE.is("again(" + pay + ")", x.again(pay), -1);
            }
        });
        refused("again: no LINES", EdgeRefusalTest::calm, x -> {
            DUE.is("again(1)", x.again(1), 0);
            DUE.is("again(1)", x.again(1), 0);
        });
    }

    private static void refusedOrders() {
        refused("order, NONE: SORT, least", EdgeRefusalTest::busy, x -> {
            DUE.is("SORT -1", x.order(-1, 0), -1);
            DUE.is("SORT 3", x.order(3, 0), -1);
            DUE.is("least -1", x.order(0, -1), -1);
            DUE.is("least 100,001", x.order(0, 100_001), -1);
        });
        refused("order, NONE: there are eight", x -> {
            busy(x);
            for (int i = 2; i < 8; i++) {
                x.order(2, i);
            }
        }, x -> DUE.is("order", x.order(2, 0), -1));
    }

    private static void whatOnlyAsks() {
        refused("fault, furnace, bar, part, burnt, line, coins, met, want, ground, count only ask", EdgeRefusalTest::busy,
                x -> {
                    for (int other : new int[] {-1, 0, 1, 2, 9, 10, LEAST, GREATEST}) {
                        x.furnace(other);
                        x.bar(other, 0);
                        x.bar(0, other);
                        x.part(other, 0);
                        x.part(0, other);
                        x.burnt(other, 0);
                        x.burnt(0, other);
                        x.line(other, 0);
                        x.line(0, other);
                        x.coins(other);
                        x.met(other);
                        x.ground(other, 0);
                        x.ground(0, other);
                        x.count(other);
                    }
                    x.want();
                    DUE.is("fault()", x.fault(), 7);
                });
        refused("blow(0), feed of no bytes, end of all bytes are no change", EdgeRefusalTest::busy, x -> {
            DUE.is("blow(0)", x.blow(0), x.furnace(0));
            DUE.is("feed", x.feed(0, 0, 0, 0, 0), 7);
            DUE.yes("end", x.end(7));
            DUE.yes("test", x.test(0, 0, 1_000));
        });
    }
}
