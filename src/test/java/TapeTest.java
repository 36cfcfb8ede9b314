import java.util.Random;
import java.util.regex.Matcher;
import java.util.regex.Pattern;

/** Promises 9 to 12: the TAPE and the RULES. */
public final class TapeTest {
    private static final Due DUE = new Due("TapeTest");

    public static void main(String[] args) {
        feed();
        feedIsFull();
        everyByteCounts();
        end();
        fault();
        faultAsARegexTellsIt();
        rules();
        rulesAreRefused();
        letters();
        signsAndNumbers();
        firstThatHolds();
        DUE.finish();
    }

    private static void feed() {
        BogForge x = new BogForge();
        DUE.is("all bytes 0", x.feed(0, 0, 0, 0, 0), 0);
        DUE.is("the lowest of the last", x.feed(0, 0, 0, 0, 'h'), 1);
        DUE.is("left out within", x.feed('=' << 24, '1' << 16, ':' << 8, '2', 0), 5);
        DUE.is("they are h=1:2", x.fault(), -1);
        DUE.yes("rules()", x.rules());
        DUE.is("the highest first", x.feed(0x683d313a, 0x39000000, 0, 0, 0), 5);
        DUE.is("it is h=1:9", x.fault(), -1);
        DUE.is("a negative number: four bytes", x.feed(-1, 0, 0, 0, 0), 9);
        DUE.is("none of them can be", x.fault(), 5);
        DUE.is("twenty", x.feed(-1, -1, -1, -1, -1), 29);
        DUE.is("byte 128 alone", x.feed(Integer.MIN_VALUE, 0, 0, 0, 0), 30);
    }

    private static void feedIsFull() {
        BogForge x = new BogForge();
        for (int i = 1; i <= 9; i++) {
            DUE.is("feed", Kit.feed(x, "h=1:2;m>3:4;c<5:6;  "), 20 * i);
        }
        DUE.is("199", Kit.feed(x, "h=1:2;m>3:4;c<5:6; "), 199);
        DUE.is("201 is more", Kit.feed(x, "o="), -1);
        DUE.is("it stays", x.count(7), 199);
        DUE.is("nothing of it came", x.fault(), 199);
        DUE.is("200", Kit.feed(x, "o"), 200);
        DUE.is("0 bytes more", x.feed(0, 0, 0, 0, 0), 200);
        DUE.is("one more", Kit.feed(x, " "), -1);
        DUE.is("twenty more", x.feed(-1, -1, -1, -1, -1), -1);
        DUE.is("fault at the end", x.fault(), 200);
    }

    private static void everyByteCounts() {
        BogForge x = new BogForge();
        for (int i = 0; i < 10; i++) {
            x.feed(-1, -1, -1, -1, i < 9 ? -1 : -256);
        }
        DUE.is("199", x.count(7), 199);
        for (int at = 0; at < 20; at++) {
            int[] one = new int[5];
            one[at / 4] = 1 << (24 - 8 * (at % 4));
            int[] two = one.clone();
            two[(at / 4 + 1) % 5] = 255;
            DUE.is("two bytes, one at " + at, x.feed(two[0], two[1], two[2], two[3], two[4]), -1);
            DUE.is("one byte at " + at, x.feed(one[0], one[1], one[2], one[3], one[4]), 200);
            DUE.is("one more at " + at, x.feed(one[0], one[1], one[2], one[3], one[4]), -1);
            x.end(199);
        }
    }

    private static void end() {
        BogForge x = new BogForge();
        Kit.tape(x, "h=1:2;m");
        DUE.no("end(-1)", x.end(-1));
        DUE.no("end(8)", x.end(8));
        DUE.no("end(greatest)", x.end(Integer.MAX_VALUE));
        DUE.no("end(least)", x.end(Integer.MIN_VALUE));
        DUE.is("length", x.count(7), 7);
        DUE.yes("end(7)", x.end(7));
        DUE.is("all of it", x.count(7), 7);
        DUE.yes("end(5)", x.end(5));
        DUE.is("the first five", x.fault(), -1);
        DUE.no("end(6)", x.end(6));
        DUE.is("more after them", Kit.tape(x, ";c"), 7);
        DUE.is("fault at the length", x.fault(), 7);
        DUE.yes("end(0)", x.end(0));
        DUE.is("none", x.count(7), 0);
    }

    private static void fault() {
        String[] good = {"", " ", "     ", "h=1:2", "m<12345:0", "c>0:9", "o=00000:1", " h = 1 : 2 ", "h=1:2;m=3:4",
            " h=1:2 ; m=3:4 ", "h=1:2;h=1:2;h=1:2"};
        for (String text : good) {
            DUE.is("fault of '" + text + "'", Kit.faultOf(text), -1);
        }
        String[] bad = {"x", "H=1:2", ";", "=", "1", ":", "hh=1:2", "h:1", "h1", "h==1:2", "h=:1", "h=a", "h=;",
            "h=1;2", "h=1=2", "h=1 2:3", "h=123456:1", "h=12345 6:1", "h=1::2", "h=1:;", "h=1:a", "h=1:23",
            "h=1:2 3", "h=1:2m", "h=1:2;;", "h=1:2;1", "h=1:2:3", "h=-1:2", "h<=1:2", "\t", "  x", "h=1:2; ;"};
        int[] at = {0, 0, 0, 0, 0, 0, 1, 1, 1, 2, 2, 2, 2,
            3, 3, 4, 7, 8, 4, 4, 4, 5,
            6, 5, 6, 6, 5, 2, 2, 0, 2, 7};
        for (int i = 0; i < bad.length; i++) {
            DUE.is("fault of '" + bad[i] + "'", Kit.faultOf(bad[i]), at[i]);
        }
        String[] early = {"h", "h ", "h=", "h= ", "h=1", "h=12345", "h=12345 ", "h=1:", "h=1: ", "h=1:2;", "h=1:2; ",
            "h=1:2;m", "h=1:2;m<3:"};
        for (String text : early) {
            DUE.is("fault of '" + text + "'", Kit.faultOf(text), text.length());
        }
        DUE.is("bytes above 127", Kit.faultOf("h=1:\u00b2"), 4);
        DUE.is("byte 255", Kit.faultOf("\u00ff"), 0);
        DUE.is("byte 160 is no blank", Kit.faultOf("h=1:2\u00a0"), 5);
    }

    /** A prefix can go on if the pattern fits it or asked for bytes beyond its end. */
    private static void faultAsARegexTellsIt() {
        String clause = " *[hmco] *[=<>] *[0-9]{1,5} *: *[0-9] *";
        Pattern pattern = Pattern.compile("(?: *|" + clause + "(?:;" + clause + ")*)");
        Random random = new Random(7);
        String bytes = "hmco=<>0123456789:; ";
        String[] pieces = {"h", "c", "<", "=", "12", "40000", "123456", ":", ":3", ";", " ", "m>7:8", "o=1:1;", "5"};
        for (int run = 0; run < 3_000; run++) {
            StringBuilder text = new StringBuilder();
            int parts = random.nextInt(9);
            for (int i = 0; i < parts; i++) {
                text.append(random.nextInt(6) == 0
                        ? "" + bytes.charAt(random.nextInt(bytes.length())) : pieces[random.nextInt(pieces.length)]);
            }
            if (random.nextBoolean()) {
                text.insert(0, "h<1100:9;");
            }
            DUE.is("fault of '" + text + "'", Kit.faultOf(text.toString()), regexFault(pattern, text.toString()));
        }
    }

    private static int regexFault(Pattern pattern, String text) {
        for (int i = 1; i <= text.length(); i++) {
            Matcher matcher = pattern.matcher(text.substring(0, i));
            if (!matcher.matches() && !matcher.hitEnd()) {
                return i - 1;
            }
        }
        return pattern.matcher(text).matches() ? -1 : text.length();
    }

    private static int airAfterOne(BogForge x) {
        x.blow(1);
        return x.furnace(2);
    }

    private static void rules() {
        BogForge x = new BogForge();
        Kit.tape(x, "m=0:4");
        DUE.yes("rules()", x.rules());
        DUE.is("the TAPE is empty", x.count(7), 0);
        DUE.is("they hold", airAfterOne(x), 4);
        DUE.is("else AIR stays", airAfterOne(x), 4);
        DUE.yes("new ones", Kit.rules(x, "m=2:7;m=3:1"));
        DUE.is("instead of the old", airAfterOne(x), 7);
        DUE.is("the second", airAfterOne(x), 1);
        DUE.yes("an empty TAPE", x.rules());
        DUE.is("none: AIR stays", airAfterOne(x), 1);
        Kit.rules(x, "m>0:5");
        DUE.is("some again", airAfterOne(x), 5);
        DUE.yes("blanks", Kit.rules(x, "   "));
        DUE.is("none again", airAfterOne(x), 5);
        x = new BogForge();
        DUE.yes("with blanks", Kit.rules(x, "  m  =  0  :  8  ;  m  =  1  :  3  "));
        DUE.is("the first", airAfterOne(x), 8);
        DUE.is("the second", airAfterOne(x), 3);
        x = new BogForge();
        StringBuilder many = new StringBuilder("m=0:1");
        for (int i = 1; i <= 9; i++) {
            many.append(";m=").append(i).append(':').append((i + 1) % 10);
        }
        for (int i = 10; i < 33; i++) {
            many.append(i < 32 ? ";o>9:9" : ";o=0:6");
        }
        DUE.is("33 clauses have", many.length(), 197);
        DUE.yes("33 clauses", Kit.rules(x, many.toString()));
        DUE.is("the first of 33", airAfterOne(x), 1);
        x.blow(9);
        DUE.is("the tenth of 33", x.furnace(2), 0);
        DUE.is("the last of 33", airAfterOne(x), 6);
    }

    private static void rulesAreRefused() {
        BogForge x = new BogForge();
        Kit.rules(x, "m=0:4;m=1:6");
        Kit.tape(x, "m<9:2;m");
        DUE.no("a FAULT", x.rules());
        DUE.is("the TAPE stays", x.count(7), 7);
        DUE.is("the old rules stay", airAfterOne(x), 4);
        DUE.is("both of them", airAfterOne(x), 6);
        x.end(5);
        DUE.yes("without the rest", x.rules());
        DUE.is("now the new", airAfterOne(x), 2);
    }

    private static void letters() {
        BogForge x = Kit.works();
        x.charge(20, 50);
        Kit.rules(x, "o=20:1");
        DUE.is("o is ORE not reduced", airAfterOne(x), 1);
        Kit.rules(x, "c=49:2");
        DUE.is("c is COAL not burnt", airAfterOne(x), 2);
        Kit.rules(x, "m=2:3");
        DUE.is("m is MINUTES", airAfterOne(x), 3);
        Kit.rules(x, "h=" + x.furnace(0) + ":5");
        DUE.is("h is SEEN, read in this minute", airAfterOne(x), 5);
        x.gap(30);
        Kit.rules(x, "h=" + x.furnace(1) + ":4");
        x.blow(1);
        DUE.is("h is not HEAT", x.furnace(2), 4);
    }

    private static void signsAndNumbers() {
        String[] texts = {"c=20:1", "c<20:1", "c>20:1", "c<21:1", "c>19:1", "c=00020:1", "c<00021:1", "c=2:1",
            "c<99999:1", "c>99999:1", "c=200:1", "c>1:1"};
        int[] airs = {1, 0, 0, 1, 1, 1, 1, 0, 1, 0, 0, 1};
        for (int i = 0; i < texts.length; i++) {
            BogForge x = Kit.works();
            x.charge(0, 20);
            Kit.rules(x, texts[i]);
            DUE.is(texts[i], airAfterOne(x), airs[i]);
        }
        for (int air = 0; air <= 9; air++) {
            BogForge x = new BogForge();
            Kit.rules(x, "m=0:" + air);
            DUE.is("AIR", airAfterOne(x), air);
        }
    }

    private static void firstThatHolds() {
        BogForge x = new BogForge();
        Kit.rules(x, "m=5:1;m<3:2;m<9:3;m<9:4");
        DUE.is("minute 0", airAfterOne(x), 2);
        x.blow(2);
        DUE.is("minute 2", x.furnace(2), 2);
        DUE.is("minute 3", airAfterOne(x), 3);
        x.blow(2);
        DUE.is("minute 5", x.furnace(2), 1);
        x.blow(4);
        DUE.is("minute 9: stays", x.furnace(2), 3);
    }
}
