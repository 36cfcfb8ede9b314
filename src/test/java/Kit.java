/** Runs of calls that many tests need. */
final class Kit {
    /** Keeps the heat between 1,100 and 1,300 and burns in every minute, so that each reduces 3 kilograms. */
    static final String STEADY = "h<1150:9;h>1149:2";
    /** AIR 9 from the first minute on: minutes 11 to 14 reduce, minute 15 is the first of SCORCH. */
    static final String FULL = "m=0:9";

    private Kit() {
    }

    /** Text as the five numbers of one feed, twenty bytes at most. */
    static int feed(BogForge x, String text) {
        int[] words = new int[5];
        for (int i = 0; i < text.length(); i++) {
            words[i / 4] |= (text.charAt(i) & 255) << (24 - 8 * (i % 4));
        }
        return x.feed(words[0], words[1], words[2], words[3], words[4]);
    }

    static int tape(BogForge x, String text) {
        int length = x.count(7);
        for (int at = 0; at < text.length(); at += 20) {
            length = feed(x, text.substring(at, Math.min(text.length(), at + 20)));
        }
        return length;
    }

    static boolean rules(BogForge x, String text) {
        x.end(0);
        tape(x, text);
        return x.rules();
    }

    static int faultOf(String text) {
        BogForge x = new BogForge();
        tape(x, text);
        return x.fault();
    }

    /** A works with one bog of 100,000 kilograms, of which 50,000 lie in the yard, and 10,000 of COAL. */
    static BogForge works() {
        BogForge x = new BogForge();
        x.bog(100_000, 0, 0);
        x.dig(0, 50_000);
        x.coal(0, 10_000);
        return x;
    }

    /** A bar of so much ORE without SCORCH, of what lies in the yard. */
    static int cleanBar(BogForge x, int ore) {
        rules(x, STEADY);
        x.charge(ore, 1_000);
        for (int i = 0; i < 10 && x.furnace(3) > 0; i++) {
            x.blow(2_000 < ore ? 2_000 : 11 + (ore + 2) / 3);
        }
        return x.draw();
    }

    /** A bar of so much ORE (12 at most) with so many minutes of SCORCH. */
    static int scorchedBar(BogForge x, int ore, int scorch) {
        rules(x, FULL);
        x.charge(ore, 9 * (14 + scorch));
        x.blow(14 + scorch);
        return x.draw();
    }

    /** The iron of every bog known to be all of its ore, so that least and greatest are the ORE. */
    static void pureIron(BogForge x, int bog) {
        x.test(bog, 1_000, 1_000);
    }
}
