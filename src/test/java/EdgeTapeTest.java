/** Each sentence on the TAPE and the RULES that names a boundary: promises 9 to 12. */
public final class EdgeTapeTest {
    private static final Due DUE = new Due("EdgeTapeTest");
    private static final int LEAST = Integer.MIN_VALUE;
    private static final int GREATEST = Integer.MAX_VALUE;
    private static final String TWENTY = "h=1:2;m>3:4;c<5:6;  ";

    public static void main(String[] args) {
        twentyBytes();
        highestFirst();
        bytesOfZero();
        bytesAbove127();
        twoHundredBytes();
        moreThanTwoHundred();
        zerosOnAFullTape();
        oneByteOnAFullTape();
        endOfNothing();
        endInBounds();
        firstBytesAlone();
        noFault();
        noBytesButBlanks();
        semicolonsBetween();
        letters();
        signs();
        fewestDigits();
        mostDigits();
        sixthDigit();
        colon();
        airIsADigit();
        blanks();
        blanksWithinNumbers();
        otherBlanks();
        firstByteOfFault();
        endsTooEarly();
        faultOnAFullTape();
        faultOfALaterClause();
        rulesEmptyTheTape();
        refusedRules();
        rulesOfAFullTape();
        rulesAreNone();
        DUE.finish();
    }

    private static void faults(int due, String... texts) {
        for (String text : texts) {
            DUE.is("fault of '" + text + "'", Kit.faultOf(text), due);
        }
    }

    private static int airAfterOne(BogForge x) {
        x.blow(1);
        return x.furnace(2);
    }

    private static BogForge fullTape() {
        BogForge x = new BogForge();
        for (int i = 0; i < 10; i++) {
            Kit.feed(x, TWENTY);
        }
        return x;
    }

    private static void twentyBytes() {
        DUE.sentence("Twenty bytes more come to the TAPE");
        BogForge x = new BogForge();
        DUE.is("twenty", x.feed(-1, -1, -1, -1, -1), 20);
        DUE.is("twenty more", x.feed(LEAST | 0x010101, GREATEST, -1, 0x01010101, -1), 40);
        DUE.is("count(7)", x.count(7), 40);
    }

    private static void highestFirst() {
        DUE.sentence("of each number the highest first");
        BogForge x = new BogForge();
        for (int at = 0; at < 20; at++) {
            int[] words = {0x20202020, 0x20202020, 0x20202020, 0x20202020, 0x20202020};
            words[at / 4] ^= 1 << (24 - 8 * (at % 4));
            x.feed(words[0], words[1], words[2], words[3], words[4]);
            DUE.is("the only one that is no blank, at " + at, x.fault(), at);
            x.end(0);
        }
        DUE.is("the first number's first byte", x.feed('x' << 24 | 'h' << 16, 0, 0, 0, 0), 2);
        DUE.is("is first", x.fault(), 0);
        x.end(0);
        x.feed('h' << 24 | '=' << 16 | '7' << 8 | ':', '3', 0, 0, 0);
        DUE.is("a clause by one byte of each place", x.fault(), -1);
        x.end(0);
        x.feed('h', '=', '7', ':', '3');
        DUE.is("a clause by the lowest bytes", x.fault(), -1);
    }

    private static void bytesOfZero() {
        DUE.sentence("bytes of 0 are left out");
        BogForge x = new BogForge();
        DUE.is("twenty of 0", x.feed(0, 0, 0, 0, 0), 0);
        for (int at = 0; at < 20; at++) {
            int[] words = {0x20202020, 0x20202020, 0x20202020, 0x20202020, 0x20202020};
            words[at / 4] &= ~(255 << (24 - 8 * (at % 4)));
            DUE.is("0 at " + at, x.feed(words[0], words[1], words[2], words[3], words[4]), 19);
            x.end(0);
        }
        DUE.is("one that is not 0", x.feed(0, 0, 256, 0, 0), 1);
    }

    private static void bytesAbove127() {
        DUE.sentence("bytes (0 .. 255): the highest ones");
        for (int at = 0; at < 4; at++) {
            BogForge x = new BogForge();
            DUE.is("128", x.feed(128 << 8 * at, 0, 0, 0, 0), 1);
            DUE.is("255", x.feed(255 << 8 * at, 0, 0, 0, 0), 2);
            DUE.is("neither can be", x.fault(), 0);
            x.end(0);
            x.feed('h' + 128 << 8 * at, 0, 0, 0, 0);
            DUE.is("nor h with the eighth bit", x.fault(), 0);
        }
    }

    private static void twoHundredBytes() {
        DUE.sentence("feed: two hundred bytes");
        BogForge x = fullTape();
        DUE.is("count(7)", x.count(7), 200);
        BogForge y = new BogForge();
        for (int i = 0; i < 9; i++) {
            Kit.feed(y, TWENTY);
        }
        Kit.feed(y, "h=1:2;m>3:4;c<5:6; ");
        DUE.is("199", y.count(7), 199);
        DUE.is("one more is 200", Kit.feed(y, "o"), 200);
    }

    private static void moreThanTwoHundred() {
        DUE.sentence("feed, NONE: more than 200");
        BogForge x = fullTape();
        DUE.is("one more", Kit.feed(x, " "), -1);
        DUE.is("twenty more", x.feed(-1, -1, -1, -1, -1), -1);
        DUE.is("count(7)", x.count(7), 200);
        x.end(199);
        DUE.is("two where one is free", Kit.feed(x, " ;"), -1);
        DUE.is("none of them came", x.count(7), 199);
        x.end(181);
        DUE.is("twenty where nineteen are free", Kit.feed(x, TWENTY), -1);
        DUE.is("none of them came", x.count(7), 181);
        DUE.is("nineteen", Kit.feed(x, "=1:2;m>3:4;c<5:6;  "), 200);
    }

    private static void zerosOnAFullTape() {
        DUE.sentence("feed, NONE: more than 200, but bytes of 0 are left out");
        BogForge x = fullTape();
        DUE.is("twenty of 0 on a full TAPE", x.feed(0, 0, 0, 0, 0), 200);
        x.end(199);
        DUE.is("one and nineteen of 0", x.feed(0, 0, 0, 0, ' '), 200);
        DUE.is("one more and nineteen of 0", x.feed(' ', 0, 0, 0, 0), -1);
    }

    private static void oneByteOnAFullTape() {
        DUE.sentence("feed, NONE: more than 200, and each byte but 0 is one more");
        BogForge x = fullTape();
        for (int b = 1; b < 256; b++) {
            DUE.is("byte " + b, x.feed(0, 0, b << 8 * (b % 4), 0, 0), -1);
        }
        DUE.is("count(7)", x.count(7), 200);
    }

    private static void endOfNothing() {
        DUE.sentence("end: an empty TAPE");
        BogForge x = new BogForge();
        DUE.yes("end(0)", x.end(0));
        DUE.no("end(1)", x.end(1));
        DUE.no("end(-1)", x.end(-1));
        DUE.is("count(7)", x.count(7), 0);
    }

    private static void endInBounds() {
        DUE.sentence("end, False: n");
        BogForge x = fullTape();
        DUE.no("end(201)", x.end(201));
        DUE.no("end(greatest)", x.end(GREATEST));
        DUE.no("end(-1)", x.end(-1));
        DUE.no("end(least)", x.end(LEAST));
        DUE.is("count(7)", x.count(7), 200);
        DUE.yes("end(200)", x.end(200));
        DUE.is("all stay", x.count(7), 200);
        DUE.yes("end(1)", x.end(1));
        DUE.is("one stays", x.count(7), 1);
        DUE.no("end(2), that it had once", x.end(2));
        DUE.yes("end(0)", x.end(0));
        DUE.is("none stays", x.count(7), 0);
        DUE.no("end(1) of none", x.end(1));
    }

    private static void firstBytesAlone() {
        DUE.sentence("The TAPE has its first n bytes alone");
        BogForge x = new BogForge();
        Kit.feed(x, "h=1:2;m=3:4");
        x.end(5);
        DUE.is("the first clause alone", x.fault(), -1);
        DUE.is("more comes behind it", Kit.feed(x, ";o"), 7);
        DUE.is("the bytes that went are gone", x.fault(), 7);
    }

    private static void noFault() {
        DUE.sentence("The FAULT of the TAPE; NONE");
        faults(-1, "", "h=1:2", "h=1:2;m>3:4", "c<0:0", "o=99999:9");
    }

    private static void noBytesButBlanks() {
        DUE.sentence("CLAUSES (none: no bytes but blanks)");
        faults(-1, "", " ", "                    ", " ".repeat(200));
        faults(0, ";");
        faults(2, "  ;");
    }

    private static void semicolonsBetween() {
        DUE.sentence("CLAUSES with ; between");
        faults(0, ";h=1:2");
        faults(6, "h=1:2;");
        faults(6, "h=1:2;;m=1:2");
        faults(5, "h=1:2m=1:2", "h=1:2,m=1:2", "h=1:2:m=1:2");
        faults(6, "h=1:2 m=1:2");
        faults(-1, "h=1:2;h=1:2", "h=1:2;h=1:2;h=1:2");
    }

    private static void letters() {
        DUE.sentence("a letter h, m, c, o");
        for (int b = 1; b < 256; b++) {
            boolean told = b == 'h' || b == 'm' || b == 'c' || b == 'o' || b == ' ';
            DUE.is("fault of byte " + b + " alone", Kit.faultOf("" + (char) b), b == ' ' ? -1 : told ? 1 : 0);
        }
        faults(1, "hh=1:2", "hm=1:2");
    }

    private static void signs() {
        DUE.sentence("one of = < >");
        for (int b = 1; b < 256; b++) {
            boolean told = b == '=' || b == '<' || b == '>' || b == ' ';
            DUE.is("fault of h and byte " + b, Kit.faultOf("h" + (char) b), told ? 2 : 1);
        }
        faults(2, "h==1:2", "h<=1:2", "h>=1:2", "h<>1:2");
    }

    private static void fewestDigits() {
        DUE.sentence("a number (1 to 5 digits): fewest");
        for (int b = 1; b < 256; b++) {
            boolean told = b >= '0' && b <= '9' || b == ' ';
            DUE.is("fault of h= and byte " + b, Kit.faultOf("h=" + (char) b), told ? 3 : 2);
        }
        faults(2, "h=:2", "h=-1:2", "h=+1:2");
        faults(-1, "h=0:2", "h=9:2");
    }

    private static void mostDigits() {
        DUE.sentence("a number (1 to 5 digits): most");
        faults(-1, "h=12:3", "h=123:4", "h=1234:5", "h=12345:6", "h=00000:1", "h=99999:1");
        BogForge x = Kit.works();
        x.charge(0, 5_000);
        Kit.rules(x, "c<99999:3");
        DUE.is("99,999 is more than 5,000", airAfterOne(x), 3);
        Kit.rules(x, "c=04997:4");
        DUE.is("04997 is 4,997", airAfterOne(x), 4);
        x.charge(0, 5_000);
        Kit.rules(x, "c=09993:5");
        DUE.is("09993 is 9,993", airAfterOne(x), 5);
        x.coal(0, 10_000);
        x.charge(0, 5_000);
        x.charge(0, 12);
        Kit.rules(x, "c=15000:6");
        DUE.is("15000 is all five of its digits", airAfterOne(x), 6);
    }

    private static void sixthDigit() {
        DUE.sentence("a sixth digit is such");
        faults(7, "h=123456:1", "h=000000:1", "h=000001", "h=123456", "h=1234567:1");
        faults(7, "h=12345x");
        faults(7, "h=12345");
        faults(8, "h= 123456:1");
    }

    private static void colon() {
        DUE.sentence("a :");
        for (int b = 1; b < 256; b++) {
            boolean goesOn = b == ':' || b == ' ' || b >= '0' && b <= '9';
            DUE.is("fault of h=1 and byte " + b, Kit.faultOf("h=1" + (char) b), goesOn ? 4 : 3);
            DUE.is("fault of h=12345 and byte " + b, Kit.faultOf("h=12345" + (char) b), b == ':' || b == ' ' ? 8 : 7);
        }
        faults(4, "h=1::2");
    }

    private static void airIsADigit() {
        DUE.sentence("and a digit (AIR)");
        for (int b = 1; b < 256; b++) {
            boolean digit = b >= '0' && b <= '9';
            DUE.is("fault of h=1: and byte " + b, Kit.faultOf("h=1:" + (char) b), digit ? -1 : b == ' ' ? 5 : 4);
            DUE.is("fault of h=1:2 and byte " + b, Kit.faultOf("h=1:2" + (char) b), b == ';' ? 6 : b == ' ' ? -1 : 5);
        }
        BogForge x = new BogForge();
        Kit.rules(x, "m=0:9;m=1:0");
        DUE.is("9", airAfterOne(x), 9);
        DUE.is("0", airAfterOne(x), 0);
    }

    private static void blanks() {
        DUE.sentence("Blanks (32) stand where they like");
        faults(-1, " h=1:2", "h =1:2", "h= 1:2", "h=1 :2", "h=1: 2", "h=1:2 ", "h=1:2 ;m=1:2", "h=1:2; m=1:2",
            "   h   =   1   :   2   ;   m   =   12345   :   4   ");
        BogForge x = new BogForge();
        Kit.rules(x, "  m  =  0  :  8  ;  m  =  1  :  3  ");
        DUE.is("the first", airAfterOne(x), 8);
        DUE.is("the second", airAfterOne(x), 3);
    }

    private static void blanksWithinNumbers() {
        DUE.sentence("but within numbers");
        faults(4, "h=1 2:3", "h=1 2");
        faults(5, "h=1  2:3");
        faults(8, "h=12345 6:7");
        faults(6, "h=1:2 3");
    }

    private static void otherBlanks() {
        DUE.sentence("Blanks (32): no other byte is one");
        for (char other : new char[] {9, 10, 11, 12, 13, 31, 33, 160}) {
            faults(0, other + "h=1:2");
            faults(5, "h=1:2" + other);
            faults(0, "" + other);
        }
    }

    private static void firstByteOfFault() {
        DUE.sentence("FAULT: the first byte at which no such can go on");
        faults(0, "x", "xx", "1=1:2", "H=1:2");
        faults(1, "hx=1:2", "h1:2", "h:2");
        faults(4, "h=1:x;y", "h=1:;;");
        faults(3, "h=1;2x");
        faults(2, "  x h=1:2");
    }

    private static void endsTooEarly() {
        DUE.sentence("the length, if they end too early");
        String whole = "h = 12345 : 6 ; m";
        for (int length = 1; length <= whole.length(); length++) {
            String text = whole.substring(0, length);
            boolean ends = text.endsWith("6") || text.endsWith("6 ");
            DUE.is("fault of '" + text + "'", Kit.faultOf(text), ends ? -1 : length);
        }
        faults(8, "h=1:2;  ");
    }

    private static void faultOnAFullTape() {
        DUE.sentence("FAULT of a TAPE of 200 bytes");
        BogForge x = fullTape();
        DUE.is("it ends too early: the length", x.fault(), 200);
        x.end(199);
        Kit.feed(x, ";");
        DUE.is("the last byte", x.fault(), 199);
        x.end(192);
        Kit.feed(x, "c < 55:1");
        DUE.is("none", x.fault(), -1);
        x.end(199);
        DUE.is("without its last byte", x.fault(), 199);
    }

    private static void faultOfALaterClause() {
        DUE.sentence("FAULT: of a later CLAUSE");
        faults(6, "h=1:2;x");
        faults(13, "h=1:2;m=12345678:1");
        faults(9, "h=1:2;m<3");
        faults(11, "h=1:2;m<3:45");
    }

    private static void rulesEmptyTheTape() {
        DUE.sentence("The TAPE (empty then) are the RULES");
        BogForge x = new BogForge();
        Kit.feed(x, "m=0:4");
        DUE.yes("rules()", x.rules());
        DUE.is("the TAPE", x.count(7), 0);
        DUE.is("its FAULT", x.fault(), -1);
        DUE.no("end(1)", x.end(1));
        DUE.is("AIR", airAfterOne(x), 4);
    }

    private static void refusedRules() {
        DUE.sentence("if refused it stays. False: a FAULT");
        BogForge x = new BogForge();
        Kit.rules(x, "m=0:4;m=1:5");
        Kit.feed(x, "m=0:7;m=1:8;m");
        DUE.no("it ends too early", x.rules());
        DUE.no("asked again", x.rules());
        DUE.is("the TAPE stays", x.count(7), 13);
        DUE.is("its FAULT stays", x.fault(), 13);
        DUE.is("the RULES of before: AIR", airAfterOne(x), 4);
        Kit.feed(x, "m");
        DUE.no("a byte at which it can't go on", x.rules());
        DUE.is("the RULES of before: AIR", airAfterOne(x), 5);
        x.end(11);
        DUE.yes("mended", x.rules());
        DUE.is("the TAPE", x.count(7), 0);
        BogForge y = new BogForge();
        Kit.feed(y, "x");
        DUE.no("refused at first", y.rules());
        DUE.is("no RULES: AIR", airAfterOne(y), 0);
    }

    private static void rulesOfAFullTape() {
        DUE.sentence("rules: a TAPE of 200 bytes, as many CLAUSES as it has room for");
        BogForge x = new BogForge();
        for (int i = 0; i < 10; i++) {
            Kit.feed(x, i < 9 ? "m=7:1;m=7:2;m=7:3;  " : "m=7:1;m=7:2;m=00:5  ");
        }
        DUE.is("bytes", x.count(7), 200);
        DUE.yes("rules()", x.rules());
        DUE.is("the last clause", airAfterOne(x), 5);
        x.blow(7);
        DUE.is("the first clause", x.furnace(2), 1);
        BogForge y = new BogForge();
        for (int clause = 0; clause < 33; clause++) {
            Kit.feed(y, clause < 32 ? "m=9:1;" : "m=0:6");
        }
        DUE.is("33 clauses", y.count(7), 197);
        DUE.yes("rules()", y.rules());
        DUE.is("the thirty-third", airAfterOne(y), 6);
    }

    private static void rulesAreNone() {
        DUE.sentence("rules: none, no bytes but blanks");
        BogForge x = new BogForge();
        Kit.rules(x, "m<99:4");
        DUE.is("some", airAfterOne(x), 4);
        DUE.yes("an empty TAPE", x.rules());
        DUE.is("AIR stays as it was told", airAfterOne(x), 4);
        Kit.rules(x, "m=2:3");
        DUE.is("some again", airAfterOne(x), 3);
        DUE.yes("blanks", Kit.rules(x, "     "));
        DUE.is("the TAPE", x.count(7), 0);
        DUE.is("AIR stays as it was told", airAfterOne(x), 3);
    }
}
