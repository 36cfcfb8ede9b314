import java.math.BigInteger;
import java.util.ArrayList;
import java.util.Arrays;
import java.util.List;
import java.util.regex.Matcher;
import java.util.regex.Pattern;

/** The document once more, in the plainest form and by other ways than BogForge's, to compare with. */
final class PlainWorks {
    private static final String CLAUSE = " *[hmco] *[=<>] *[0-9]{1,5} *: *[0-9] *";
    private static final Pattern RULES = Pattern.compile("(?: *|" + CLAUSE + "(?:;" + CLAUSE + ")*)");

    int now;
    /** ORE, GROWTH, REST, lower, upper, dug last, YARD. */
    final List<int[]> bogs = new ArrayList<>();
    final int[] yardCoal = new int[8];
    String tape = "";
    String rules = "";
    int water = 9;
    int gap = 1;
    int[] ore = new int[12];
    int[] bloom = new int[12];
    int[] charged = new int[8];
    int burnt;
    int heat;
    int seen;
    int air;
    int minutes;
    final List<Integer> scorched = new ArrayList<>();
    final List<Bar> bars = new ArrayList<>();
    final List<int[]> rights = new ArrayList<>();
    final List<int[]> pays = new ArrayList<>();
    final List<int[]> lines = new ArrayList<>();
    final List<int[]> orders = new ArrayList<>();
    int gone;

    static final class Bar {
        int[] ore;
        int[] coal;
        BigInteger least;
        BigInteger greatest;
        int sort;
        int heats;
        int year;
    }

    static int sum(int[] row) {
        return Arrays.stream(row).sum();
    }

    /** The ones that are left go to the greatest rests, as a stable sort puts them. */
    static int[] parted(int number, long[] measures) {
        BigInteger all = BigInteger.valueOf(Arrays.stream(measures).sum());
        int[] shares = new int[measures.length];
        if (all.signum() == 0) {
            return null;
        }
        List<Integer> byRest = new ArrayList<>();
        BigInteger[] rests = new BigInteger[measures.length];
        int left = number;
        for (int i = 0; i < measures.length; i++) {
            BigInteger[] both = BigInteger.valueOf(number).multiply(BigInteger.valueOf(measures[i])).divideAndRemainder(all);
            shares[i] = both[0].intValueExact();
            rests[i] = both[1];
            left -= shares[i];
            byRest.add(i);
        }
        byRest.sort((a, b) -> rests[b].compareTo(rests[a]));
        for (int i = 0; i < left; i++) {
            shares[byRest.get(i)]++;
        }
        return shares;
    }

    static long[] wide(int[] row) {
        return Arrays.stream(row).asLongStream().toArray();
    }

    boolean has(int bog) {
        return bog >= 0 && bog < bogs.size();
    }

    boolean drawn(int bar) {
        return bar >= 0 && bar < bars.size();
    }

    int bog(int ore, int growth, int rest) {
        if (bogs.size() == 12 || ore < 0 || ore > 100000 || growth < 0 || growth > 5000 || rest < 0 || rest > 20) {
            return -1;
        }
        bogs.add(new int[] {ore, growth, rest, 0, 1000, -1, 0});
        return bogs.size() - 1;
    }

    boolean test(int bog, int a, int b) {
        if (!has(bog) || a < 0 || a > 1000 || b < 0 || b > 1000 || b < a) {
            return false;
        }
        int[] it = bogs.get(bog);
        int lower = Math.max(a, it[3]);
        int upper = Math.min(b, it[4]);
        if (upper < lower) {
            return false;
        }
        it[3] = lower;
        it[4] = upper;
        return true;
    }

    int dig(int bog, int kilograms) {
        if (!has(bog) || kilograms < 1 || kilograms > bogs.get(bog)[0]) {
            return -1;
        }
        int[] it = bogs.get(bog);
        boolean allowed = it[5] == -1 || it[5] == now || it[5] + it[2] <= now;
        if (!allowed) {
            return -1;
        }
        it[0] -= kilograms;
        it[5] = now;
        return it[6] += kilograms;
    }

    int coal(int burner, int kilograms) {
        if (burner < 0 || burner > 7 || kilograms < 1 || kilograms > 10000 || yardCoal[burner] + kilograms > 1000000) {
            return -1;
        }
        return yardCoal[burner] += kilograms;
    }

    int year() {
        if (now == 100 || sum(ore) > 0 || sum(bloom) > 0 || sum(charged) > burnt) {
            return -1;
        }
        for (int[] it : bogs) {
            it[0] = Math.min(100000, it[0] + it[1]);
        }
        return ++now;
    }

    boolean water(int most) {
        boolean good = most >= 0 && most <= 9;
        water = good ? most : water;
        return good;
    }

    boolean gap(int minutes) {
        boolean good = minutes >= 1 && minutes <= 30;
        gap = good ? minutes : gap;
        return good;
    }

    int feed(int... words) {
        StringBuilder more = new StringBuilder();
        for (int word : words) {
            String hex = String.format("%08x", word);
            for (int i = 0; i < 8; i += 2) {
                int b = Integer.parseInt(hex.substring(i, i + 2), 16);
                if (b != 0) {
                    more.append((char) b);
                }
            }
        }
        if (tape.length() + more.length() > 200) {
            return -1;
        }
        tape += more;
        return tape.length();
    }

    boolean end(int n) {
        if (n < 0 || n > tape.length()) {
            return false;
        }
        tape = tape.substring(0, n);
        return true;
    }

    int fault() {
        for (int i = 1; i <= tape.length(); i++) {
            Matcher matcher = RULES.matcher(tape.substring(0, i));
            if (!matcher.matches() && !matcher.hitEnd()) {
                return i - 1;
            }
        }
        return RULES.matcher(tape).matches() ? -1 : tape.length();
    }

    boolean rules() {
        if (fault() != -1) {
            return false;
        }
        rules = tape.replace(" ", "");
        tape = "";
        return true;
    }

    boolean charge(int kilograms, int coal) {
        int[] yard = bogs.stream().mapToInt(it -> it[6]).toArray();
        if (kilograms < 0 || kilograms > 5000 || coal < 0 || coal > 5000 || kilograms == 0 && coal == 0
                || kilograms > sum(yard) || coal > sum(yardCoal)) {
            return false;
        }
        if (kilograms > 0) {
            int[] shares = parted(kilograms, wide(yard));
            for (int i = 0; i < shares.length; i++) {
                bogs.get(i)[6] -= shares[i];
                ore[i] += shares[i];
            }
        }
        if (coal > 0) {
            int[] shares = parted(coal, wide(yardCoal));
            for (int i = 0; i < 8; i++) {
                yardCoal[i] -= shares[i];
                charged[i] += shares[i];
            }
        }
        return true;
    }

    int blow(int n) {
        if (n < 0 || n > 2000 || minutes + n > 20000) {
            return -1;
        }
        for (int i = 0; i < n; i++) {
            minute();
        }
        return heat;
    }

    private void minute() {
        if (minutes % gap == 0) {
            seen = heat;
        }
        for (String clause : rules.isEmpty() ? new String[0] : rules.split(";")) {
            int value = switch (clause.charAt(0)) {
                case 'h' -> seen;
                case 'm' -> minutes;
                case 'c' -> sum(charged) - burnt;
                default -> sum(ore);
            };
            int colon = clause.indexOf(':');
            int sign = Integer.compare(value, Integer.parseInt(clause.substring(2, colon)));
            if ("<=>".charAt(sign + 1) == clause.charAt(1)) {
                air = clause.charAt(colon + 1) - '0';
                break;
            }
        }
        int burning = Math.min(Math.min(air, water), sum(charged) - burnt);
        burnt += burning;
        heat += burning * 12;
        heat -= heat / 40 + 2;
        heat = heat < 0 ? 0 : heat;
        int reduced = Math.min(3, sum(ore));
        if (heat >= 1000 && heat <= 1300 && burning > 0 && reduced > 0) {
            int[] shares = parted(reduced, wide(ore));
            for (int i = 0; i < 12; i++) {
                ore[i] -= shares[i];
                bloom[i] += shares[i];
            }
        }
        if (heat > 1300) {
            scorched.add(minutes);
        }
        minutes++;
    }

    int draw() {
        if (sum(bloom) == 0 || bars.size() == 100) {
            return -1;
        }
        Bar bar = new Bar();
        bar.ore = bloom;
        bar.coal = parted(burnt, wide(charged));
        long low = 0;
        long high = 0;
        for (int i = 0; i < bogs.size(); i++) {
            low += (long) bloom[i] * bogs.get(i)[3];
            high += (long) bloom[i] * bogs.get(i)[4];
        }
        bar.least = BigInteger.valueOf(Math.floorDiv(low, 1000L));
        bar.greatest = BigInteger.valueOf(-Math.floorDiv(-high, 1000L));
        bar.sort = scorched.isEmpty() ? 0 : scorched.size() <= 10 ? 1 : 2;
        bar.year = now;
        gone += sum(ore);
        bars.add(bar);
        ore = new int[12];
        bloom = new int[12];
        charged = new int[8];
        burnt = heat = seen = air = minutes = 0;
        scorched.clear();
        return bars.size() - 1;
    }

    int furnace(int what) {
        int[] all = {heat, seen, air, sum(ore), sum(charged) - burnt, sum(bloom), minutes, scorched.size(),
            scorched.isEmpty() ? -1 : scorched.get(0)};
        return what < 0 || what > 8 ? -1 : all[what];
    }

    static int sortOf(Bar bar) {
        return Math.max(0, bar.sort - bar.heats / 2);
    }

    int forge(int bar, int heats) {
        if (!drawn(bar) || heats < 1 || heats > 9 || bars.get(bar).heats + heats > 9) {
            return -1;
        }
        Bar it = bars.get(bar);
        BigInteger hundred = BigInteger.valueOf(100);
        for (int i = 0; i < heats; i++) {
            it.least = it.least.multiply(BigInteger.valueOf(97)).divide(hundred);
            BigInteger[] both = it.greatest.multiply(BigInteger.valueOf(99)).divideAndRemainder(hundred);
            it.greatest = both[0].add(both[1].signum() > 0 ? BigInteger.ONE : BigInteger.ZERO);
            it.heats++;
        }
        return sortOf(it);
    }

    int bar(int bar, int what) {
        if (!drawn(bar) || what < 0 || what > 6) {
            return -1;
        }
        Bar it = bars.get(bar);
        return new int[] {it.least.intValueExact(), it.greatest.intValueExact(), sortOf(it), it.heats, it.year,
            sum(it.ore), sum(it.coal)}[what];
    }

    int part(int bar, int bog) {
        return drawn(bar) && bog >= 0 && bog < 12 ? bars.get(bar).ore[bog] : 0;
    }

    int burnt(int bar, int burner) {
        return drawn(bar) && burner >= 0 && burner < 8 ? bars.get(bar).coal[burner] : 0;
    }

    boolean right(int bog, int holder, int parts, int from) {
        if (!has(bog) || holder < 0 || holder > 7 || parts < 0 || parts > 100 || from < 0 || from > 200
                || rights.size() == 100) {
            return false;
        }
        rights.add(new int[] {bog, holder, parts, from});
        return true;
    }

    int pay(int bar, int coins) {
        if (!drawn(bar) || coins < 1 || coins > 1000000 || pays.size() == 60) {
            return -1;
        }
        pays.add(new int[] {bar, coins, now});
        again(pays.size() - 1);
        return pays.size() - 1;
    }

    int again(int pay) {
        if (pay < 0 || pay >= pays.size()) {
            return -1;
        }
        int[] it = pays.get(pay);
        long[] measures = new long[8];
        for (int bog = 0; bog < bogs.size(); bog++) {
            int[][] best = new int[8][];
            for (int[] right : rights) {
                int holder = right[1];
                if (right[0] == bog && right[3] <= it[2] && (best[holder] == null || best[holder][3] <= right[3])) {
                    best[holder] = right;
                }
            }
            for (int holder = 0; holder < 8; holder++) {
                measures[holder] += best[holder] == null ? 0 : (long) bars.get(it[0]).ore[bog] * best[holder][2];
            }
        }
        int[] shares = parted(it[1], measures);
        if (shares == null) {
            shares = new int[] {it[1], 0, 0, 0, 0, 0, 0, 0};
        }
        int made = 0;
        for (int[] line : lines) {
            shares[line[2]] -= line[1] == pay ? line[3] : 0;
        }
        for (int holder = 0; holder < 8; holder++) {
            if (shares[holder] != 0) {
                lines.add(new int[] {now, pay, holder, shares[holder]});
                made++;
            }
        }
        return made;
    }

    int line(int i, int what) {
        return i < 0 || i >= lines.size() || what < 0 || what > 3 ? 0 : lines.get(i)[what];
    }

    int coins(int holder) {
        return lines.stream().filter(line -> line[2] == holder).mapToInt(line -> line[3]).sum();
    }

    int order(int sort, int least) {
        if (orders.size() == 8 || sort < 0 || sort > 2 || least < 0 || least > 100000) {
            return -1;
        }
        orders.add(new int[] {sort, least});
        return orders.size() - 1;
    }

    void clear() {
        orders.clear();
    }

    /** Which bars, but those used, fit some order of a set. */
    private int barsFor(int set, List<Integer> used) {
        int sum = 0;
        for (int bar = 0; bar < bars.size(); bar++) {
            boolean any = false;
            for (int i = 0; i < orders.size(); i++) {
                any |= (set >> i & 1) == 1 && fits(i, bar);
            }
            sum += any && !used.contains(bar) ? 1 : 0;
        }
        return sum;
    }

    private boolean fits(int order, int bar) {
        return sortOf(bars.get(bar)) <= orders.get(order)[0]
                && bars.get(bar).least.intValueExact() >= orders.get(order)[1];
    }

    /** All of a set but what some part of it is more than its bars can be met. */
    private int mostMet(int set, List<Integer> used) {
        int lacking = 0;
        for (int part = set; part > 0; part = (part - 1) & set) {
            lacking = Math.max(lacking, Integer.bitCount(part) - barsFor(part, used));
        }
        return Integer.bitCount(set) - lacking;
    }

    int[] ways() {
        int later = (1 << orders.size()) - 1;
        int[] has = new int[8];
        Arrays.fill(has, -1);
        List<Integer> used = new ArrayList<>();
        int most = mostMet(later, used);
        for (int i = 0; i < orders.size(); i++) {
            later &= ~(1 << i);
            for (int bar = 0; bar < bars.size() && has[i] < 0; bar++) {
                if (fits(i, bar) && !used.contains(bar)) {
                    used.add(bar);
                    if (used.size() + mostMet(later, used) == most) {
                        has[i] = bar;
                    } else {
                        used.remove((Integer) bar);
                    }
                }
            }
        }
        return has;
    }

    int met(int order) {
        return order < 0 || order >= orders.size() ? -1 : ways()[order];
    }

    int want() {
        for (int set = 1; set < 1 << orders.size(); set++) {
            if (Integer.bitCount(set) > barsFor(set, List.of())) {
                return set;
            }
        }
        return 0;
    }

    int ground(int bog, int what) {
        return has(bog) && what >= 0 && what <= 6 ? bogs.get(bog)[what] : -1;
    }

    int count(int what) {
        switch (what) {
            case 0: return now;
            case 1: return bogs.size();
            case 2: return bars.size();
            case 3: return pays.size();
            case 4: return lines.size();
            case 5: return orders.size();
            case 6: return (int) Arrays.stream(ways()).filter(bar -> bar >= 0).count();
            case 7: return tape.length();
            case 8: return sum(yardCoal);
            case 9: return gone;
            default: return -1;
        }
    }
}
