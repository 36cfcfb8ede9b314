import java.util.Random;

/** All promises: random runs of 512 calls, each answer compared with the plain works. */
public final class ModelTest {
    private static final int[] EDGES = {0, 1, -1, 2, 3, 7, 8, 9, 10, 11, 12, 20, 21, 30, 31, 60, 99, 100, 101, 200, 201,
        1_000, 1_001, 2_000, 2_001, 5_000, 5_001, 10_000, 10_001, 20_000, 100_000, 100_001, 1_000_000, 1_000_001,
        Integer.MAX_VALUE, Integer.MIN_VALUE, Integer.MAX_VALUE - 1, Integer.MIN_VALUE + 1, -1_000};
    private static final String[] PIECES = {"h<1100:9", "h>1200:0", "h<1150:9;h>1149:2", "m=0:9", "m<15:9", "m>14:3",
        "c<50:4", "c>400:8", "o=0:0", "o>0:7", ";", ";", ";", ";", " ", "m", "=", "12", ":", "3", "h>99999:5", "x",
        "c=00100:1", "h = 400 : 6", "123456"};

    private final Due due = new Due("ModelTest");
    private Random random;
    private BogForge x;
    private PlainWorks y;
    private int calls;
    private String name;

    public static void main(String[] args) {
        ModelTest test = new ModelTest();
        for (int run = 0; run < 150; run++) {
            test.play(run);
        }
        test.playOn();
        test.due.finish();
    }

    /** Far beyond 512 calls answers are free, but no call may throw. */
    private void playOn() {
        random = new Random(5);
        x = new BogForge();
        for (int i = 0; i < 6; i++) {
            x.bog(100_000, 5_000, 0);
        }
        for (int i = 0; i < 200_000; i++) {
            int a = any(8);
            int b = any(100);
            x.bog(any(1_000), b, a);
            x.test(a, b, any(1_001));
            x.dig(a, b);
            x.coal(a, any(10_001));
            if (i % 500 == 0) {
                x.year();
                x.clear();
                x.end(0);
                Kit.rules(x, i % 1_000 == 0 ? Kit.STEADY : Kit.FULL);
            }
            x.feed(any(256), any(256), any(256), any(256), any(256));
            x.end(any(100));
            x.fault();
            x.charge(b, any(400));
            x.blow(any(30));
            if (i % 50 == 0) {
                x.draw();
            }
            x.forge(b, a);
            x.right(a, any(8), b, any(201));
            x.pay(b, any(1_000_000));
            x.again(any(60));
            x.order(any(3), any(20));
            for (int what = -1; what < 13; what++) {
                x.furnace(what);
                x.ground(a, what);
                x.bar(b, what);
                x.part(b, what);
                x.burnt(b, what);
                x.line(any(5_000), what);
            }
            if (i % 20 == 0) {
                x.met(a);
                x.want();
                x.count(any(10));
            }
        }
        due.is("BARS after very many calls", x.count(2), 100);
        due.is("PAYS after very many calls", x.count(3), 60);
    }

    private void play(int run) {
        random = new Random(1_000 + run);
        x = new BogForge();
        y = new PlainWorks();
        calls = 0;
        int bogs = run % 3 == 0 ? 1 : 1 + random.nextInt(12);
        for (int i = 0; i < bogs; i++) {
            name = "run " + run + ", call " + calls;
            bog(random.nextInt(100_001), random.nextInt(5_001), random.nextInt(run % 2 == 0 ? 3 : 21));
        }
        for (int i = 0; i < 4; i++) {
            coal(random.nextInt(8), 10_000);
        }
        while (calls < 500) {
            name = "run " + run + ", call " + calls;
            int kind = random.nextInt(50);
            if (kind < 10) {
                work(run);
            } else if (kind < 12) {
                moreCoalAndOre();
            } else if (kind < 14) {
                text();
            } else {
                one(random.nextInt(31));
            }
        }
        look();
    }

    /** Towards a bar, as most other calls need one. */
    private void work(int run) {
        if (random.nextInt(3) == 0) {
            put("h<1150:9;h>1149:2");
            rules();
        }
        charge(random.nextInt(run % 4 == 0 ? 5_000 : 60), 50 + random.nextInt(400));
        blow(random.nextInt(60));
        if (random.nextInt(4) == 0) {
            due.is(name + " furnace", x.furnace(5), y.furnace(5));
        }
        if (random.nextBoolean()) {
            draw();
        }
        if (random.nextInt(6) == 0) {
            end(0);
        }
    }

    private void moreCoalAndOre() {
        for (int i = 0; i < y.bogs.size(); i++) {
            if (random.nextBoolean()) {
                dig(i, 1 + random.nextInt(1 + y.bogs.get(i)[0] / 4));
            }
        }
        coal(random.nextInt(8), 1 + random.nextInt(10_000));
        year();
    }

    private void text() {
        StringBuilder text = new StringBuilder();
        int pieces = 1 + random.nextInt(8);
        for (int i = 0; i < pieces; i++) {
            text.append(PIECES[random.nextInt(random.nextInt(4) == 0 ? PIECES.length : 14)]);
        }
        put(text.toString());
        due.is(name + " fault", x.fault(), y.fault());
        calls++;
        if (random.nextBoolean()) {
            rules();
        }
    }

    private void put(String text) {
        for (int at = 0; at < text.length(); at += 20) {
            int[] words = new int[5];
            for (int i = at; i < Math.min(text.length(), at + 20); i++) {
                words[(i - at) / 4] |= text.charAt(i) << (24 - 8 * (i % 4));
            }
            feed(words);
        }
    }

    /** Mostly a number below the bound, else an edge. */
    private int any(int bound) {
        int kind = random.nextInt(12);
        if (kind == 0) {
            return EDGES[random.nextInt(EDGES.length)];
        }
        return kind == 1 ? random.nextInt(bound + 3) - 1 : random.nextInt(Math.max(1, bound));
    }

    private void one(int kind) {
        switch (kind) {
            case 0: bog(any(100_001), any(5_001), any(21)); break;
            case 1: {
                int a = any(1_001);
                int b = random.nextInt(3) == 0 ? any(1_001) : a + any(700);
                is("test", x.test(any0(y.bogs.size()), a, b), y.test(last, a, b));
                break;
            }
            case 2: dig(any(y.bogs.size()), any(500)); break;
            case 3: coal(any(8), any(10_001)); break;
            case 4: year(); break;
            case 5: {
                int most = random.nextInt(3) == 0 ? any(10) : 9;
                is("water " + most, x.water(most), y.water(most));
                break;
            }
            case 6: {
                int minutes = any(4);
                is("gap " + minutes, x.gap(minutes), y.gap(minutes));
                break;
            }
            case 7: {
                int[] words = {any(256), any(256), any(256), any(256), any(256)};
                if (random.nextInt(4) == 0) {
                    feed(words);
                }
                break;
            }
            case 8: end(any(y.tape.length() + 1)); break;
            case 9: is("fault", x.fault(), y.fault()); break;
            case 10: rules(); break;
            case 11: charge(any(300), any(800)); break;
            case 12: blow(any(random.nextInt(20) == 0 ? 2_001 : 30)); break;
            case 13: draw(); break;
            case 14: is("furnace", x.furnace(any0(9)), y.furnace(last)); break;
            case 15: {
                int heats = any(4);
                is("forge", x.forge(any0(y.bars.size()), heats), y.forge(last, heats));
                break;
            }
            case 16: pair("bar", y.bars.size(), 7); break;
            case 17: pair("part", y.bars.size(), 12); break;
            case 18: pair("burnt", y.bars.size(), 8); break;
            case 19:
            case 20: {
                int holder = any(8);
                int parts = any(101);
                int from = any(random.nextInt(3) == 0 ? 201 : y.now + 2);
                is("right", x.right(any0(y.bogs.size()), holder, parts, from), y.right(last, holder, parts, from));
                break;
            }
            case 21: {
                int coins = any(random.nextBoolean() ? 1_000_001 : 50);
                is("pay", x.pay(any0(y.bars.size()), coins), y.pay(last, coins));
                break;
            }
            case 22:
            case 23: is("again", x.again(any0(y.pays.size())), y.again(last)); break;
            case 24: pair("line", y.lines.size(), 4); break;
            case 25: is("coins", x.coins(any0(8)), y.coins(last)); break;
            case 26: {
                int least = any(random.nextInt(5) == 0 ? 100_001 : 40);
                is("order", x.order(any0(3), least), y.order(last, least));
                break;
            }
            case 27:
                if (random.nextInt(6) == 0) {
                    x.clear();
                    y.clear();
                    calls++;
                }
                break;
            case 28: is("met", x.met(any0(y.orders.size())), y.met(last)); break;
            case 29: is("want", x.want(), y.want()); break;
            default:
                pair("ground", y.bogs.size(), 7);
                is("count", x.count(any0(10)), y.count(last));
        }
    }

    private int last;

    /** A number for the one and, as last, the other. */
    private int any0(int bound) {
        last = any(bound);
        return last;
    }

    private void pair(String call, int bound, int whats) {
        int i = any(bound);
        int what = any(whats);
        String told = call + "(" + i + ", " + what + ")";
        switch (call) {
            case "bar": is(told, x.bar(i, what), y.bar(i, what)); break;
            case "part": is(told, x.part(i, what), y.part(i, what)); break;
            case "burnt": is(told, x.burnt(i, what), y.burnt(i, what)); break;
            case "line": is(told, x.line(i, what), y.line(i, what)); break;
            default: is(told, x.ground(i, what), y.ground(i, what));
        }
    }

    private void is(String call, int got, int want) {
        due.is(name + ": " + call, got, want);
        calls++;
    }

    private void is(String call, boolean got, boolean want) {
        is(call, got ? 1 : 0, want ? 1 : 0);
    }

    private void bog(int ore, int growth, int rest) {
        is("bog", x.bog(ore, growth, rest), y.bog(ore, growth, rest));
    }

    private void dig(int bog, int kilograms) {
        is("dig", x.dig(bog, kilograms), y.dig(bog, kilograms));
    }

    private void coal(int burner, int kilograms) {
        is("coal", x.coal(burner, kilograms), y.coal(burner, kilograms));
    }

    private void year() {
        is("year", x.year(), y.year());
    }

    private void feed(int[] w) {
        is("feed", x.feed(w[0], w[1], w[2], w[3], w[4]), y.feed(w));
    }

    private void end(int n) {
        is("end", x.end(n), y.end(n));
    }

    private void rules() {
        is("rules", x.rules(), y.rules());
    }

    private void charge(int ore, int coal) {
        is("charge", x.charge(ore, coal), y.charge(ore, coal));
    }

    private void blow(int n) {
        is("blow", x.blow(n), y.blow(n));
    }

    private void draw() {
        is("draw", x.draw(), y.draw());
    }

    /** At the end the whole state is compared; more than 512 calls ask nothing that 512 could not. */
    private void look() {
        for (int what = -1; what <= 10; what++) {
            is("count(" + what + ")", x.count(what), y.count(what));
            is("furnace(" + what + ")", x.furnace(what), y.furnace(what));
        }
        for (int i = 0; i < y.bogs.size(); i++) {
            for (int what = 0; what <= 6; what++) {
                is("ground(" + i + ", " + what + ")", x.ground(i, what), y.ground(i, what));
            }
        }
        for (int i = 0; i < y.bars.size(); i++) {
            for (int what = 0; what < 12; what++) {
                is("bar(" + i + ", " + what + ")", x.bar(i, what), y.bar(i, what));
                is("part(" + i + ", " + what + ")", x.part(i, what), y.part(i, what));
                is("burnt(" + i + ", " + what + ")", x.burnt(i, what), y.burnt(i, what));
            }
        }
        for (int i = 0; i < y.lines.size(); i++) {
            for (int what = 0; what < 4; what++) {
                is("line(" + i + ", " + what + ")", x.line(i, what), y.line(i, what));
            }
        }
        for (int i = 0; i < 8; i++) {
            is("met(" + i + ")", x.met(i), y.met(i));
            is("coins(" + i + ")", x.coins(i), y.coins(i));
        }
        is("want()", x.want(), y.want());
    }
}
