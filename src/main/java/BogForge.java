import java.util.Arrays;

/** A bog iron works: bogs, a furnace with its founder, bars, the money for them, and smiths' orders. */
public final class BogForge {
    public static final int NONE = -1;

    private static final int BOGS = 12;
    private static final int BURNERS = 8;
    private static final int HOLDERS = 8;
    private static final int BARS = 100;
    private static final int PAYS = 60;
    private static final int RIGHTS = 100;
    private static final int ORDERS = 8;
    private static final int LAST_YEAR = 100;
    private static final int LAST_RIGHT_YEAR = 200;
    private static final int MOST_ORE = 100_000;
    private static final int MOST_GROWTH = 5_000;
    private static final int LONGEST_REST = 20;
    private static final int WHOLE = 1_000;
    private static final int MOST_COAL_AT_ONCE = 10_000;
    private static final int MOST_COAL = 1_000_000;
    private static final int MOST_AIR = 9;
    private static final int LONGEST_GAP = 30;
    private static final int TAPE_BYTES = 200;
    private static final int MOST_CLAUSES = 40;
    private static final int MOST_CHARGE = 5_000;
    private static final int MOST_AT_ONCE = 2_000;
    private static final int MOST_MINUTES = 20_000;
    private static final int COLDEST = 1_000;
    private static final int HOTTEST = 1_300;
    private static final int REDUCED_AT_ONCE = 3;
    private static final int LIGHT_SCORCH = 10;
    private static final int WORST_SORT = 2;
    private static final int MOST_HEATS = 9;
    private static final int MOST_PARTS = 100;
    private static final int MOST_COINS = 1_000_000;
    private static final int MOST_LEAST = 100_000;
    private static final int FIRST_LINES = 64;
    // 512 calls make at most HOLDERS lines each, so no promised call ever meets this bound.
    private static final int MOST_LINES = 512 * HOLDERS;

    private int now;
    private final Bog[] bogs;
    private int bogCount;
    private final Yard yard;
    private final Tape tape;
    private final Founder founder;
    private final Hearth hearth;
    private final Bar[] bars;
    private int barCount;
    private int oreLost;
    private final Rights rights;
    private final Pay[] pays;
    private int payCount;
    private final Ledger ledger;
    private final Orders orders;
    private final Parting parting;
    private final int[] claims;

    public BogForge() {
        bogs = new Bog[BOGS];
        yard = new Yard();
        tape = new Tape();
        founder = new Founder();
        hearth = new Hearth();
        bars = new Bar[BARS];
        rights = new Rights();
        pays = new Pay[PAYS];
        ledger = new Ledger();
        orders = new Orders();
        parting = new Parting();
        claims = new int[HOLDERS];
    }

    // ---- bogs and the yard ----

    public int bog(int ore, int growth, int rest) {
        if (bogCount >= bogs.length || !within(ore, 0, MOST_ORE)
                || !within(growth, 0, MOST_GROWTH) || !within(rest, 0, LONGEST_REST)) {
            return NONE;
        }
        bogs[bogCount] = new Bog(ore, growth, rest);
        return bogCount++;
    }

    public boolean test(int bog, int a, int b) {
        Bog tested = bogAt(bog);
        if (tested == null || !within(a, 0, WHOLE) || !within(b, a, WHOLE)) {
            return false;
        }
        return tested.narrow(a, b);
    }

    public int dig(int bog, int kilograms) {
        Bog dug = bogAt(bog);
        if (dug == null || !within(kilograms, 1, dug.ore) || dug.restsIn(now)) {
            return NONE;
        }
        dug.ore -= kilograms;
        dug.lastDug = now;
        return yard.addOre(bog, kilograms);
    }

    public int coal(int burner, int kilograms) {
        return within(kilograms, 1, MOST_COAL_AT_ONCE) ? yard.addCoal(burner, kilograms) : NONE;
    }

    public int year() {
        if (now >= LAST_YEAR || hearth.isFilled()) {
            return NONE;
        }
        for (int i = 0; i < bogCount; i++) {
            Bog growing = bogAt(i);
            if (growing != null) {
                growing.grow();
            }
        }
        now++;
        return now;
    }

    public int ground(int bog, int what) {
        Bog seen = bogAt(bog);
        if (seen == null) {
            return NONE;
        }
        switch (what) {
            case 0: return seen.ore;
            case 1: return seen.growth;
            case 2: return seen.rest;
            case 3: return seen.lower;
            case 4: return seen.upper;
            case 5: return seen.lastDug;
            case 6: return itemOf(yard.ore, bog);
            default: return NONE;
        }
    }

    // ---- the founder's rules ----

    public int feed(int a, int b, int c, int d, int e) {
        int more = Tape.bytesIn(a) + Tape.bytesIn(b) + Tape.bytesIn(c) + Tape.bytesIn(d) + Tape.bytesIn(e);
        if (tape.length + more > TAPE_BYTES) {
            return NONE;
        }
        tape.append(a);
        tape.append(b);
        tape.append(c);
        tape.append(d);
        tape.append(e);
        return tape.length;
    }

    public boolean end(int n) {
        if (!within(n, 0, tape.length)) {
            return false;
        }
        tape.length = n;
        return true;
    }

    public int fault() {
        return tape.firstFault();
    }

    public boolean rules() {
        if (tape.firstFault() != NONE) {
            return false;
        }
        founder.learn(tape);
        tape.length = 0;
        return true;
    }

    // ---- the furnace ----

    public boolean water(int most) {
        if (!within(most, 0, MOST_AIR)) {
            return false;
        }
        hearth.water = most;
        return true;
    }

    public boolean gap(int minutes) {
        if (!within(minutes, 1, LONGEST_GAP)) {
            return false;
        }
        hearth.gap = minutes;
        return true;
    }

    public boolean charge(int ore, int coal) {
        if (!within(ore, 0, MOST_CHARGE) || !within(coal, 0, MOST_CHARGE) || ore + coal == 0
                || ore > sumOf(yard.ore) || coal > sumOf(yard.coal)) {
            return false;
        }
        parting.carry(ore, yard.ore, hearth.ore);
        parting.carry(coal, yard.coal, hearth.charged);
        hearth.oreLeft += ore;
        hearth.coalLeft += coal;
        return true;
    }

    public int blow(int n) {
        if (!within(n, 0, MOST_AT_ONCE) || hearth.minutes + n > MOST_MINUTES) {
            return NONE;
        }
        for (int i = 0; i < n; i++) {
            hearth.passMinute(founder, parting);
        }
        return hearth.heat;
    }

    public int furnace(int what) {
        switch (what) {
            case 0: return hearth.heat;
            case 1: return hearth.seen;
            case 2: return hearth.air;
            case 3: return hearth.oreLeft;
            case 4: return hearth.coalLeft;
            case 5: return sumOf(hearth.bloom);
            case 6: return hearth.minutes;
            case 7: return hearth.scorch;
            case 8: return hearth.firstScorch;
            default: return NONE;
        }
    }

    // ---- bars ----

    public int draw() {
        if (barCount >= bars.length || sumOf(hearth.bloom) == 0) {
            return NONE;
        }
        Bar drawn = new Bar(hearth.sortOfBloom(), now);
        drawn.setIron(ironInBloom(false), ironInBloom(true));
        System.arraycopy(hearth.bloom, 0, drawn.ore, 0, BOGS);
        parting.carry(hearth.burnt, hearth.charged, drawn.coal);
        oreLost += hearth.oreLeft;
        hearth.empty();
        bars[barCount] = drawn;
        return barCount++;
    }

    /** Thousandths are cut at the lower ends of the spans and go up at the upper ends. */
    private int ironInBloom(boolean upper) {
        long thousandths = 0;
        for (int i = 0; i < bogCount; i++) {
            Bog from = bogAt(i);
            if (from != null) {
                thousandths += (long) itemOf(hearth.bloom, i) * (upper ? from.upper : from.lower);
            }
        }
        return (int) ((upper ? thousandths + WHOLE - 1 : thousandths) / WHOLE);
    }

    public int forge(int bar, int heats) {
        Bar forged = barAt(bar);
        if (forged == null || !within(heats, 1, MOST_HEATS) || forged.heats + heats > MOST_HEATS) {
            return NONE;
        }
        for (int i = 0; i < heats; i++) {
            forged.heatOnce();
        }
        return forged.sortNow();
    }

    public int bar(int bar, int what) {
        Bar asked = barAt(bar);
        if (asked == null) {
            return NONE;
        }
        switch (what) {
            case 0: return asked.least;
            case 1: return asked.greatest;
            case 2: return asked.sortNow();
            case 3: return asked.heats;
            case 4: return asked.drawnIn;
            case 5: return sumOf(asked.ore);
            case 6: return sumOf(asked.coal);
            default: return NONE;
        }
    }

    public int part(int bar, int bog) {
        Bar asked = barAt(bar);
        return asked == null ? 0 : itemOf(asked.ore, bog);
    }

    public int burnt(int bar, int burner) {
        Bar asked = barAt(bar);
        return asked == null ? 0 : itemOf(asked.coal, burner);
    }

    // ---- money ----

    public boolean right(int bog, int holder, int parts, int from) {
        if (bogAt(bog) == null || !within(holder, 0, HOLDERS - 1) || !within(parts, 0, MOST_PARTS)
                || !within(from, 0, LAST_RIGHT_YEAR)) {
            return false;
        }
        return rights.tell(bog, holder, parts, from);
    }

    public int pay(int bar, int coins) {
        if (barAt(bar) == null || !within(coins, 1, MOST_COINS) || payCount >= pays.length || !ledger.hasRoom()) {
            return NONE;
        }
        pays[payCount] = new Pay(bar, coins, now);
        payCount++;
        settle(payCount - 1);
        return payCount - 1;
    }

    public int again(int pay) {
        if (!within(pay, 0, payCount - 1) || !ledger.hasRoom()) {
            return NONE;
        }
        return settle(pay);
    }

    public int line(int i, int what) {
        if (!within(i, 0, ledger.size - 1)) {
            return 0;
        }
        switch (what) {
            case 0: return itemOf(ledger.years, i);
            case 1: return itemOf(ledger.payNumbers, i);
            case 2: return itemOf(ledger.holders, i);
            case 3: return itemOf(ledger.amounts, i);
            default: return 0;
        }
    }

    public int coins(int holder) {
        return itemOf(ledger.totals, holder);
    }

    /** A first settling starts from nothing, so its differences are the shares themselves. */
    private int settle(int number) {
        Pay pay = number >= 0 && number < pays.length ? pays[number] : null;
        Bar paid = pay == null ? null : barAt(pay.bar);
        if (paid == null) {
            return 0;
        }
        for (int holder = 0; holder < HOLDERS; holder++) {
            claims[holder] = rights.claimOf(holder, paid, pay.madeIn);
        }
        if (!parting.divide(pay.coins, claims)) {
            parting.giveAllToFirst(pay.coins);
        }
        int lines = 0;
        for (int holder = 0; holder < HOLDERS; holder++) {
            int difference = parting.shares[holder] - pay.shares[holder];
            if (difference != 0) {
                ledger.write(now, number, holder, difference);
                pay.shares[holder] += difference;
                lines++;
            }
        }
        return lines;
    }

    // ---- orders ----

    public int order(int sort, int least) {
        if (!within(sort, 0, WORST_SORT) || !within(least, 0, MOST_LEAST)) {
            return NONE;
        }
        return orders.take(sort, least);
    }

    public void clear() {
        orders.size = 0;
    }

    public int met(int order) {
        if (!within(order, 0, orders.size - 1)) {
            return NONE;
        }
        orders.match(bars, barCount);
        return itemOf(orders.barOf, order);
    }

    public int want() {
        orders.weigh(bars, barCount);
        return orders.leastWanting();
    }

    public int count(int what) {
        switch (what) {
            case 0: return now;
            case 1: return bogCount;
            case 2: return barCount;
            case 3: return payCount;
            case 4: return ledger.size;
            case 5: return orders.size;
            case 6:
                orders.match(bars, barCount);
                return orders.metCount();
            case 7: return tape.length;
            case 8: return sumOf(yard.coal);
            case 9: return oreLost;
            default: return NONE;
        }
    }

    // ---- helpers ----

    private Bog bogAt(int number) {
        return number >= 0 && number < bogCount && number < bogs.length ? bogs[number] : null;
    }

    private Bar barAt(int number) {
        return number >= 0 && number < barCount && number < bars.length ? bars[number] : null;
    }

    private static boolean within(int x, int low, int high) {
        return x >= low && x <= high;
    }

    private static int itemOf(int[] row, int i) {
        return i >= 0 && i < row.length ? row[i] : 0;
    }

    private static int sumOf(int[] row) {
        int sum = 0;
        for (int i = 0; i < row.length; i++) {
            sum += row[i];
        }
        return sum;
    }

    /** One bog with what is known of its ore. */
    private static final class Bog {
        int ore;
        final int growth;
        final int rest;
        int lower;
        int upper = WHOLE;
        int lastDug = NONE;

        Bog(int ore, int growth, int rest) {
            this.ore = ore;
            this.growth = growth;
            this.rest = rest;
        }

        boolean narrow(int a, int b) {
            if (a > upper || b < lower) {
                return false;
            }
            lower = Math.max(lower, a);
            upper = Math.min(upper, b);
            return true;
        }

        boolean restsIn(int year) {
            return lastDug != NONE && lastDug != year && year - lastDug < rest;
        }

        void grow() {
            ore = Math.min(MOST_ORE, ore + growth);
        }
    }

    /** What lies ready to be charged. */
    private static final class Yard {
        final int[] ore = new int[BOGS];
        final int[] coal = new int[BURNERS];

        int addOre(int bog, int kilograms) {
            if (bog < 0 || bog >= ore.length) {
                return NONE;
            }
            ore[bog] += kilograms;
            return ore[bog];
        }

        int addCoal(int burner, int kilograms) {
            if (burner < 0 || burner >= coal.length || coal[burner] + kilograms > MOST_COAL) {
                return NONE;
            }
            coal[burner] += kilograms;
            return coal[burner];
        }
    }

    /** Parts a number by measures; its rows are made once, as every minute of the furnace parts something. */
    private static final class Parting {
        final int[] shares = new int[BOGS];
        private final long[] rests = new long[BOGS];

        /** False if all measures are 0: nobody has a share then. */
        boolean divide(int number, int[] measures) {
            Arrays.fill(shares, 0);
            int parties = Math.min(measures.length, shares.length);
            long sum = 0;
            for (int i = 0; i < parties; i++) {
                sum += measures[i];
            }
            if (sum <= 0) {
                return false;
            }
            int left = number;
            for (int i = 0; i < parties; i++) {
                long product = (long) number * measures[i];
                shares[i] = (int) (product / sum);
                rests[i] = product % sum;
                left -= shares[i];
            }
            // The rests add up to what is left times the sum, so fewer than all parties get one more.
            for (int given = 0; given < left && given < parties; given++) {
                int next = greatestRest(parties);
                shares[next]++;
                rests[next] = -1;
            }
            return true;
        }

        private int greatestRest(int parties) {
            int best = 0;
            for (int i = 1; i < parties; i++) {
                if (rests[i] > rests[best]) {
                    best = i;
                }
            }
            return best;
        }

        void giveAllToFirst(int number) {
            Arrays.fill(shares, 0);
            shares[0] = number;
        }

        /** Parted by what the givers have, so that none gives more than that. */
        void carry(int number, int[] from, int[] to) {
            divide(number, from);
            for (int i = 0; i < from.length && i < to.length && i < shares.length; i++) {
                from[i] -= shares[i];
                to[i] += shares[i];
            }
        }
    }

    /** The bytes of which rules are made. */
    private static final class Tape {
        private static final int START = 0;
        private static final int SIGN = 1;
        private static final int NUMBER = 2;
        // NUMBER + k: k digits of the number are read, so that the next state is one more.
        private static final int NUMBER_FULL = 7;
        private static final int COLON = 8;
        private static final int AIR = 9;
        private static final int DONE = 10;
        private static final int LETTER = 11;
        private static final int BROKEN = 12;

        private final int[] bytes = new int[TAPE_BYTES];
        int length;

        static int bytesIn(int word) {
            int sum = 0;
            for (int shift = 24; shift >= 0; shift -= 8) {
                if ((word >>> shift & 255) != 0) {
                    sum++;
                }
            }
            return sum;
        }

        void append(int word) {
            for (int shift = 24; shift >= 0; shift -= 8) {
                int piece = word >>> shift & 255;
                if (piece != 0 && length < bytes.length) {
                    bytes[length] = piece;
                    length++;
                }
            }
        }

        int byteAt(int i) {
            return itemOf(bytes, i);
        }

        int firstFault() {
            int state = START;
            for (int i = 0; i < length; i++) {
                state = after(state, byteAt(i));
                if (state == BROKEN) {
                    return i;
                }
            }
            return state == START || state == DONE ? NONE : length;
        }

        private static int after(int state, int b) {
            if (b == ' ') {
                return state > NUMBER && state <= NUMBER_FULL ? COLON : state;
            }
            switch (state) {
                case START:
                case LETTER:
                    return isLetter(b) ? SIGN : BROKEN;
                case SIGN:
                    return isSign(b) ? NUMBER : BROKEN;
                case NUMBER:
                    return isDigit(b) ? NUMBER + 1 : BROKEN;
                case NUMBER_FULL:
                case COLON:
                    return b == ':' ? AIR : BROKEN;
                case AIR:
                    return isDigit(b) ? DONE : BROKEN;
                case DONE:
                    return b == ';' ? LETTER : BROKEN;
                default:
                    return afterDigit(state, b);
            }
        }

        private static int afterDigit(int state, int b) {
            if (b == ':') {
                return AIR;
            }
            return isDigit(b) ? state + 1 : BROKEN;
        }

        static boolean isLetter(int b) {
            return b == 'h' || b == 'm' || b == 'c' || b == 'o';
        }

        static boolean isSign(int b) {
            return b == '=' || b == '<' || b == '>';
        }

        static boolean isDigit(int b) {
            return b >= '0' && b <= '9';
        }
    }

    /** The rules, read off a tape once, so that a minute needs no look at bytes. */
    private static final class Founder {
        private final int[] letters = new int[MOST_CLAUSES];
        private final int[] signs = new int[MOST_CLAUSES];
        private final int[] numbers = new int[MOST_CLAUSES];
        private final int[] airs = new int[MOST_CLAUSES];
        private int clauses;

        /** The tape has no fault. */
        void learn(Tape tape) {
            clauses = 0;
            boolean airNext = false;
            for (int i = 0; i < tape.length; i++) {
                int b = tape.byteAt(i);
                if (Tape.isLetter(b)) {
                    open(b);
                    airNext = false;
                } else if (b == ':') {
                    airNext = true;
                } else {
                    learnWithin(clauses - 1, b, airNext);
                }
            }
        }

        private void open(int letter) {
            if (clauses < letters.length) {
                letters[clauses] = letter;
                numbers[clauses] = 0;
                clauses++;
            }
        }

        private void learnWithin(int clause, int b, boolean airNext) {
            if (clause < 0 || clause >= letters.length) {
                return;
            }
            if (Tape.isSign(b)) {
                signs[clause] = b;
            } else if (Tape.isDigit(b) && airNext) {
                airs[clause] = b - '0';
            } else if (Tape.isDigit(b)) {
                numbers[clause] = numbers[clause] * 10 + b - '0';
            }
        }

        int airFor(Hearth hearth) {
            for (int i = 0; i < clauses && i < letters.length; i++) {
                if (holds(signs[i], reading(letters[i], hearth), numbers[i])) {
                    return airs[i];
                }
            }
            return hearth.air;
        }

        private static int reading(int letter, Hearth hearth) {
            switch (letter) {
                case 'h': return hearth.seen;
                case 'm': return hearth.minutes;
                case 'c': return hearth.coalLeft;
                default: return hearth.oreLeft;
            }
        }

        private static boolean holds(int sign, int value, int number) {
            switch (sign) {
                case '=': return value == number;
                case '<': return value < number;
                default: return value > number;
            }
        }
    }

    /** The furnace with what is told of its bellows. */
    private static final class Hearth {
        final int[] ore = new int[BOGS];
        final int[] bloom = new int[BOGS];
        final int[] charged = new int[BURNERS];
        int oreLeft;
        int coalLeft;
        int burnt;
        int heat;
        int minutes;
        int seen;
        int air;
        int scorch;
        int firstScorch = NONE;
        int water = MOST_AIR;
        int gap = 1;

        boolean isFilled() {
            return oreLeft != 0 || coalLeft != 0 || sumOf(bloom) != 0;
        }

        void passMinute(Founder founder, Parting parting) {
            if (gap > 0 && minutes % gap == 0) {
                seen = heat;
            }
            air = founder.airFor(this);
            int burning = Math.min(Math.min(air, water), coalLeft);
            coalLeft -= burning;
            burnt += burning;
            heat += 12 * burning;
            heat = Math.max(0, heat - heat / 40 - 2);
            if (burning > 0 && heat >= COLDEST && heat <= HOTTEST) {
                reduce(Math.min(REDUCED_AT_ONCE, oreLeft), parting);
            }
            if (heat > HOTTEST) {
                noteScorch();
            }
            minutes++;
        }

        private void reduce(int kilograms, Parting parting) {
            if (kilograms > 0) {
                parting.carry(kilograms, ore, bloom);
                oreLeft -= kilograms;
            }
        }

        private void noteScorch() {
            if (scorch == 0) {
                firstScorch = minutes;
            }
            scorch++;
        }

        int sortOfBloom() {
            if (scorch == 0) {
                return 0;
            }
            return scorch <= LIGHT_SCORCH ? 1 : WORST_SORT;
        }

        /** Water and gap are told, not had: they stay. */
        void empty() {
            Arrays.fill(ore, 0);
            Arrays.fill(bloom, 0);
            Arrays.fill(charged, 0);
            oreLeft = 0;
            coalLeft = 0;
            burnt = 0;
            heat = 0;
            minutes = 0;
            seen = 0;
            air = 0;
            scorch = 0;
            firstScorch = NONE;
        }
    }

    /** A drawn bloom. */
    private static final class Bar {
        final int[] ore = new int[BOGS];
        final int[] coal = new int[BURNERS];
        final int drawnSort;
        final int drawnIn;
        int least;
        int greatest;
        int heats;

        Bar(int drawnSort, int drawnIn) {
            this.drawnSort = drawnSort;
            this.drawnIn = drawnIn;
        }

        void setIron(int least, int greatest) {
            this.least = least;
            this.greatest = greatest;
        }

        void heatOnce() {
            least = (int) (least * 97L / 100);
            greatest = (int) ((greatest * 99L + 99) / 100);
            heats++;
        }

        int sortNow() {
            return Math.max(0, drawnSort - heats / 2);
        }
    }

    /** All rights in the order in which they were told. */
    private static final class Rights {
        private final int[] bogNumbers = new int[RIGHTS];
        private final int[] holders = new int[RIGHTS];
        private final int[] parts = new int[RIGHTS];
        private final int[] froms = new int[RIGHTS];
        private int size;

        boolean tell(int bog, int holder, int parted, int from) {
            if (size >= RIGHTS) {
                return false;
            }
            bogNumbers[size] = bog;
            holders[size] = holder;
            parts[size] = parted;
            froms[size] = from;
            size++;
            return true;
        }

        private int inForce(int bog, int holder, int year) {
            int latest = NONE;
            int found = 0;
            for (int i = 0; i < size && i < RIGHTS; i++) {
                boolean meant = bogNumbers[i] == bog && holders[i] == holder;
                // Not less: of alike years the one told last is in force.
                if (meant && froms[i] <= year && froms[i] >= latest) {
                    latest = froms[i];
                    found = parts[i];
                }
            }
            return found;
        }

        int claimOf(int holder, Bar bar, int year) {
            int claim = 0;
            for (int bog = 0; bog < BOGS; bog++) {
                if (bar.ore[bog] != 0) {
                    claim += bar.ore[bog] * inForce(bog, holder, year);
                }
            }
            return claim;
        }
    }

    /** One payment and what each holder has of it so far. */
    private static final class Pay {
        final int bar;
        final int coins;
        final int madeIn;
        final int[] shares = new int[HOLDERS];

        Pay(int bar, int coins, int madeIn) {
            this.bar = bar;
            this.coins = coins;
            this.madeIn = madeIn;
        }
    }

    /** All lines; its rows grow, as few runs need many. */
    private static final class Ledger {
        int[] years = new int[FIRST_LINES];
        int[] payNumbers = new int[FIRST_LINES];
        int[] holders = new int[FIRST_LINES];
        int[] amounts = new int[FIRST_LINES];
        final int[] totals = new int[HOLDERS];
        int size;

        boolean hasRoom() {
            return size + HOLDERS <= MOST_LINES;
        }

        void write(int year, int pay, int holder, int amount) {
            if (size >= years.length) {
                grow();
            }
            if (size >= years.length || holder < 0 || holder >= totals.length) {
                return;
            }
            years[size] = year;
            payNumbers[size] = pay;
            holders[size] = holder;
            amounts[size] = amount;
            totals[holder] += amount;
            size++;
        }

        private void grow() {
            int wider = Math.min(MOST_LINES, 2 * years.length);
            if (wider > years.length) {
                years = Arrays.copyOf(years, wider);
                payNumbers = Arrays.copyOf(payNumbers, wider);
                holders = Arrays.copyOf(holders, wider);
                amounts = Arrays.copyOf(amounts, wider);
            }
        }
    }

    /** Smiths' orders, matched with bars anew at each question, as bars and their forging change what fits. */
    private static final class Orders {
        private final int[] sorts = new int[ORDERS];
        private final int[] leasts = new int[ORDERS];
        final int[] barOf = new int[ORDERS];
        int size;
        // Of each bar: the orders that it could meet (bits), the one that has it,
        // whether it is promised to an earlier order, and by which order a search came to it.
        private final int[] couldMeet = new int[BARS];
        private final int[] takenBy = new int[BARS];
        private final boolean[] promised = new boolean[BARS];
        private final int[] cameFrom = new int[BARS];
        private final int[] queue = new int[ORDERS];
        private int barsKnown;

        int take(int sort, int least) {
            if (size >= ORDERS) {
                return NONE;
            }
            sorts[size] = sort;
            leasts[size] = least;
            return size++;
        }

        void weigh(Bar[] bars, int barCount) {
            barsKnown = Math.min(Math.min(barCount, bars.length), BARS);
            for (int i = 0; i < barsKnown; i++) {
                Bar bar = bars[i];
                couldMeet[i] = bar == null ? 0 : ordersThatFit(bar.sortNow(), bar.least);
            }
        }

        private int ordersThatFit(int sort, int iron) {
            int bits = 0;
            for (int i = 0; i < size && i < ORDERS; i++) {
                if (sort <= sorts[i] && iron >= leasts[i]) {
                    bits |= 1 << i;
                }
            }
            return bits;
        }

        void match(Bar[] bars, int barCount) {
            weigh(bars, barCount);
            Arrays.fill(barOf, NONE);
            Arrays.fill(takenBy, NONE);
            for (int i = 0; i < barsKnown; i++) {
                promised[i] = false;
            }
            // Some way with as many met as can be comes first; then each order in turn gets its bar for good.
            for (int i = 0; i < size && i < ORDERS; i++) {
                findBar(i);
            }
            for (int i = 0; i < size && i < ORDERS; i++) {
                promiseLowest(i);
            }
        }

        /** Gives an order a bar, moving others to bars of their own where that makes room; false if none can be. */
        private boolean findBar(int start) {
            Arrays.fill(cameFrom, NONE);
            queue[0] = start;
            int waiting = 1;
            for (int head = 0; head < waiting && head < ORDERS; head++) {
                int order = queue[head];
                for (int bar = 0; bar < barsKnown; bar++) {
                    if ((couldMeet[bar] >> order & 1) == 0 || promised[bar] || cameFrom[bar] != NONE) {
                        continue;
                    }
                    cameFrom[bar] = order;
                    if (takenBy[bar] == NONE) {
                        handOver(bar);
                        return true;
                    }
                    if (waiting < ORDERS) {
                        queue[waiting] = takenBy[bar];
                        waiting++;
                    }
                }
            }
            return false;
        }

        private void handOver(int free) {
            int bar = free;
            for (int step = 0; step < ORDERS && bar >= 0 && bar < BARS; step++) {
                int order = cameFrom[bar];
                if (order < 0 || order >= ORDERS) {
                    return;
                }
                int before = barOf[order];
                barOf[order] = bar;
                takenBy[bar] = order;
                bar = before;
            }
        }

        /** The lowest bar with which as many orders stay met; which of the later ones they are plays no part. */
        private void promiseLowest(int order) {
            for (int bar = 0; bar < barsKnown; bar++) {
                boolean free = (couldMeet[bar] >> order & 1) != 0 && !promised[bar];
                if (free && (barOf[order] == bar || moveTo(order, bar))) {
                    promised[bar] = true;
                    return;
                }
            }
        }

        /** False, and nothing is moved, if fewer orders would be met. */
        private boolean moveTo(int order, int bar) {
            int old = barOf[order];
            int loser = takenBy[bar];
            boolean freesOld = old >= 0 && old < BARS;
            boolean takesAway = loser >= 0 && loser < ORDERS;
            if (freesOld) {
                takenBy[old] = NONE;
            }
            if (takesAway) {
                barOf[loser] = NONE;
            }
            takenBy[bar] = order;
            barOf[order] = bar;
            promised[bar] = true;
            if (!freesOld || !takesAway || findBarAfter(order)) {
                return true;
            }
            promised[bar] = false;
            takenBy[old] = order;
            takenBy[bar] = loser;
            barOf[order] = old;
            barOf[loser] = bar;
            return false;
        }

        private boolean findBarAfter(int order) {
            for (int later = order + 1; later < size && later < ORDERS; later++) {
                if (barOf[later] == NONE && findBar(later)) {
                    return true;
                }
            }
            return false;
        }

        int metCount() {
            int sum = 0;
            for (int i = 0; i < size && i < ORDERS; i++) {
                if (barOf[i] != NONE) {
                    sum++;
                }
            }
            return sum;
        }

        /** Orders can all be met just if no set of them is more than the bars for it (Hall's theorem). */
        int leastWanting() {
            for (int set = 1; set < 1 << Math.min(size, ORDERS); set++) {
                if (barsFor(set) < Integer.bitCount(set)) {
                    return set;
                }
            }
            return 0;
        }

        private int barsFor(int set) {
            int sum = 0;
            for (int bar = 0; bar < barsKnown && sum < ORDERS; bar++) {
                if ((couldMeet[bar] & set) != 0) {
                    sum++;
                }
            }
            return sum;
        }
    }
}
