import java.math.BigInteger;
import java.util.ArrayList;
import java.util.Arrays;
import java.util.List;
import java.util.TreeMap;

/** A second trust, written from the document anew and by other means than the class; whole runs are compared with it. */
final class PlainTrust {
    static final int BAD = -1, NOT = -2, FULL = -3, VOID = -2000000000;

    static final class Street {
        int[][] height;
        boolean[][] drain;
        final TreeMap<Integer, Integer> wheels = new TreeMap<>();
        int paved;
        int cost;
        int saving;
        int savingYear;
    }

    /** A levelling, a course or a plan: how good it is, the less the better, and what was chosen in it. */
    record Choice(int[] rank, int[] chosen) {
        Choice with(int[] newRank, int next) {
            int[] longer = Arrays.copyOf(chosen, chosen.length + 1);
            longer[chosen.length] = next;
            return new Choice(newRank, longer);
        }

        boolean isBetterThan(Choice other) {
            if (other == null) {
                return true;
            }
            int byRank = Arrays.compare(rank, other.rank);
            return byRank < 0 || byRank == 0 && Arrays.compare(chosen, other.chosen) < 0;
        }
    }

    record House(int[] streets, int[] fronts, int value) {
    }

    record Act(int kind, int passed, int from, String text) {
    }

    static final class Opening {
        int company;
        int street;
        int at;
        int day;
        int leave;
        int back = -1;
    }

    final List<Street> streets = new ArrayList<>();
    final List<House> houses = new ArrayList<>();
    final List<Act> acts = new ArrayList<>();
    final List<Opening> openings = new ArrayList<>();
    final int[] stones = new int[10];
    final StringBuilder tape = new StringBuilder();
    int today;
    int thisYear;
    int[] levelledAt;
    int[] rowThen;
    Choice levelling;
    int[] course;
    final TreeMap<Integer, Integer> planned = new TreeMap<>();
    List<Integer> drawn = List.of();

    int call(String name, int[] a) {
        switch (name) {
            case "street": return street(a[0], a[1], a[2]);
            case "height": return height(a[0], a[1], a[2], a[3]);
            case "read": return isSquare(a[0], a[1], a[2]) ? streets.get(a[0]).height[a[1]][a[2]] : BAD;
            case "drain": return drain(a[0], a[1], a[2], a[3]);
            case "water": return isSquare(a[0], a[1], a[2]) ? water(streets.get(a[0]), a[1], a[2]) : BAD;
            case "standing": return isStreet(a[0]) ? standing(streets.get(a[0])) : BAD;
            case "most": return isStreet(a[0]) ? most(streets.get(a[0])) : BAD;
            case "level": return level(a[0], a[1], a[2], a[3]);
            case "levelled": return levelling != null && in(a[0], 0, rowThen.length - 1) ? levelling.chosen[a[0]] : BAD;
            case "move": return move();
            case "stones": return stones(a[0], a[1]);
            case "course": return course(a[0]);
            case "of": return course != null && in(a[0], 1, 9) ? course[9 - a[0]] : BAD;
            case "lay": return lay(a[0]);
            case "year": return thisYear == 30 ? NOT : ++thisYear;
            case "wheels": return wheels(a[0], a[1], a[2]);
            case "pave": return pave(a[0]);
            case "wear": return isStreet(a[0]) && in(a[1], 0, 40) ? wear(streets.get(a[0]), a[1]) : BAD;
            case "cost": return cost(a[0], a[1], a[2], a[3]);
            case "plan": return plan(a[0], a[1], new int[] {a[2], a[3], a[4]});
            case "planned": return planned.getOrDefault(a[0], BAD);
            default: return callOfActs(name, a);
        }
    }

    private int callOfActs(String name, int[] a) {
        switch (name) {
            case "house": return house(a[0], a[1], a[2]);
            case "days": return in(a[0], 1, 100) && today + a[0] <= 9999 ? today += a[0] : BAD;
            case "feed": return feed(a[0], a[1]);
            case "act": return act(a[0], a[1]);
            case "inForce": return in(a[0], 0, 1) && isDay(a[1]) && isDay(a[2]) ? inForce(a[0], a[1], a[2]) : BAD;
            case "rate": return rate(a[0], a[1], a[2]);
            case "rates": return rates(a[0], a[1]);
            case "clause": return clause(a[0], a[1]);
            case "open": return open(a[0], a[1], a[2], a[3]);
            case "back": return back(a[0]);
            case "penalty": return penalty(a[0], a[1], a[2]);
            case "sink": return sink(a[0], a[1]);
            case "opening": return opening(a[0], a[1]);
            case "draw": return draw(a[0], a[1], a[2]);
            case "drawn": return in(a[0], 0, drawn.size() - 1) ? drawn.get(a[0]) : BAD;
            case "bad": return bad(a[0], a[1], a[2], a[3]);
            case "count": return count(a[0]);
            default: throw new IllegalArgumentException(name);
        }
    }

    static boolean in(int n, int least, int greatest) {
        return n >= least && n <= greatest;
    }

    private static boolean isDay(int day) {
        return in(day, 0, 9999);
    }

    private boolean isStreet(int street) {
        return in(street, 0, streets.size() - 1);
    }

    private boolean isSquare(int street, int row, int column) {
        return isStreet(street) && in(row, 0, streets.get(street).height.length - 1)
                && in(column, 0, streets.get(street).height[0].length - 1);
    }

    private boolean isAt(int street, int at) {
        return at >= 0 && isSquare(street, at >> 4, at & 15);
    }

    // ---- heights

    private int street(int rows, int columns, int h) {
        if (!in(rows, 1, 16) || !in(columns, 1, 9) || !in(h, 0, 99)) {
            return BAD;
        }
        if (streets.size() == 8) {
            return FULL;
        }
        Street s = new Street();
        s.height = new int[rows][columns];
        for (int[] row : s.height) {
            Arrays.fill(row, h);
        }
        s.drain = new boolean[rows][columns];
        streets.add(s);
        return streets.size() - 1;
    }

    private int height(int street, int row, int column, int h) {
        if (!isSquare(street, row, column) || !in(h, 0, 99)) {
            return BAD;
        }
        int was = streets.get(street).height[row][column];
        streets.get(street).height[row][column] = h;
        return was;
    }

    private int drain(int street, int row, int column, int is) {
        if (!isSquare(street, row, column) || !in(is, 0, 1)) {
            return BAD;
        }
        boolean was = streets.get(street).drain[row][column];
        streets.get(street).drain[row][column] = is == 1;
        return was ? 1 : 0;
    }

    /** All squares by which water goes from one, that one first. */
    private static List<int[]> way(Street s, int row, int column) {
        List<int[]> way = new ArrayList<>();
        int[] here = {row, column};
        while (here != null) {
            way.add(here);
            int[] next = null;
            int lowest = s.height[here[0]][here[1]];
            int[][] around = {{here[0] - 1, here[1]}, {here[0], here[1] - 1}, {here[0], here[1] + 1}, {here[0] + 1, here[1]}};
            for (int[] n : around) {
                boolean is = in(n[0], 0, s.height.length - 1) && in(n[1], 0, s.height[0].length - 1);
                if (is && !s.drain[here[0]][here[1]] && s.height[n[0]][n[1]] < lowest) {
                    lowest = s.height[n[0]][n[1]];
                    next = n;
                }
            }
            here = next;
        }
        return way;
    }

    private static int water(Street s, int row, int column) {
        List<int[]> way = way(s, row, column);
        int[] end = way.get(way.size() - 1);
        return 16 * end[0] + end[1] + (s.drain[end[0]][end[1]] ? 1000 : 0);
    }

    private static int standing(Street s) {
        int n = 0;
        for (int row = 0; row < s.height.length; row++) {
            for (int column = 0; column < s.height[0].length; column++) {
                n += water(s, row, column) < 1000 ? 1 : 0;
            }
        }
        return n;
    }

    private static int most(Street s) {
        int[] comers = new int[256];
        for (int row = 0; row < s.height.length; row++) {
            for (int column = 0; column < s.height[0].length; column++) {
                for (int[] square : way(s, row, column)) {
                    comers[16 * square[0] + square[1]]++;
                }
            }
        }
        return Arrays.stream(comers).max().getAsInt();
    }

    /** From the first column on: the best beginning of a row for each height with which it can end. */
    private int level(int street, int row, int kennel, int falls) {
        int f = falls / 10;
        int s = falls % 10;
        if (!isSquare(street, row, kennel) || !in(falls, 0, 99) || f > s) {
            return BAD;
        }
        int[] old = streets.get(street).height[row].clone();
        Choice[] best = new Choice[100];
        for (int h = 0; h < 100; h++) {
            best[h] = new Choice(new int[] {Math.abs(h - old[0])}, new int[] {h});
        }
        for (int column = 1; column < old.length; column++) {
            Choice[] next = new Choice[100];
            for (int h = 0; h < 100; h++) {
                for (int fall = f; fall <= s; fall++) {
                    int from = column <= kennel ? h + fall : h - fall;
                    if (in(from, 0, 99) && best[from] != null) {
                        Choice longer = best[from].with(new int[] {best[from].rank[0] + Math.abs(h - old[column])}, h);
                        next[h] = longer.isBetterThan(next[h]) ? longer : next[h];
                    }
                }
            }
            best = next;
        }
        Choice found = null;
        for (Choice c : best) {
            found = c != null && c.isBetterThan(found) ? c : found;
        }
        if (found == null) {
            return NOT;
        }
        levelling = found;
        levelledAt = new int[] {street, row};
        rowThen = old;
        return found.rank[0];
    }

    private int move() {
        if (levelling == null || !Arrays.equals(rowThen, streets.get(levelledAt[0]).height[levelledAt[1]])) {
            return NOT;
        }
        streets.get(levelledAt[0]).height[levelledAt[1]] = levelling.chosen.clone();
        int earth = levelling.rank[0];
        levelling = null;
        return earth;
    }

    // ---- stones

    private int stones(int size, int n) {
        if (!in(size, 1, 9) || !in(n, 1, 99)) {
            return BAD;
        }
        return stones[size] + n > 999 ? NOT : (stones[size] += n);
    }

    /** The sizes from the greatest on: the best stones for each width that these can make. */
    private int[] bestCourse(int w) {
        Choice[] best = new Choice[w + 1];
        best[0] = new Choice(new int[] {0}, new int[0]);
        for (int size = 9; size >= 1; size--) {
            Choice[] next = new Choice[w + 1];
            for (int width = 0; width <= w; width++) {
                for (int n = 0; best[width] != null && n <= stones[size] && width + n * size <= w; n++) {
                    // more of a greater size comes first, so what is kept is how many less than all
                    Choice longer = best[width].with(new int[] {best[width].rank[0] + n}, -n);
                    int to = width + n * size;
                    next[to] = longer.isBetterThan(next[to]) ? longer : next[to];
                }
            }
            best = next;
        }
        return best[w] == null ? null : Arrays.stream(best[w].chosen).map(n -> -n).toArray();
    }

    private int course(int w) {
        int[] found = in(w, 1, 60) ? bestCourse(w) : null;
        if (found == null) {
            return in(w, 1, 60) ? NOT : BAD;
        }
        course = found;
        return Arrays.stream(found).sum();
    }

    private int lay(int w) {
        int[] found = in(w, 1, 60) ? bestCourse(w) : null;
        if (found == null) {
            return in(w, 1, 60) ? NOT : BAD;
        }
        for (int i = 0; i < 9; i++) {
            stones[9 - i] -= found[i];
        }
        return Arrays.stream(found).sum();
    }

    // ---- years

    private int wheels(int street, int year, int n) {
        if (!isStreet(street) || !in(year, 0, thisYear) || !in(n, -1, 9999)) {
            return BAD;
        }
        if (n == -1) {
            streets.get(street).wheels.remove(year);
        } else {
            streets.get(street).wheels.put(year, n);
        }
        return 1;
    }

    private int pave(int street) {
        if (!isStreet(street)) {
            return BAD;
        }
        int worn = wear(streets.get(street), thisYear);
        streets.get(street).paved = thisYear;
        return worn;
    }

    private int wear(Street s, int year) {
        int mean = (int) s.wheels.headMap(thisYear).values().stream().mapToInt(n -> n).average().orElse(0);
        int worn = 0;
        for (int y = s.paved; y <= year - 1; y++) {
            worn += s.wheels.getOrDefault(y, mean);
        }
        return worn;
    }

    private int cost(int street, int cost, int saving, int year) {
        if (!isStreet(street) || !in(cost, 1, 9999) || !in(saving, 0, cost) || !in(year, 0, 40)) {
            return BAD;
        }
        streets.get(street).cost = cost;
        streets.get(street).saving = saving;
        streets.get(street).savingYear = year;
        return 1;
    }

    private int plan(int set, int n, int[] money) {
        List<Integer> members = new ArrayList<>();
        for (int i = 0; i < 32; i++) {
            if ((set >>> i & 1) == 1) {
                members.add(i);
            }
        }
        if (!in(n, 1, 3) || !in(members.size(), 1, 6)) {
            return BAD;
        }
        for (int i = 0; i < 3; i++) {
            if (!in(money[i], 0, i < n ? 99999 : 0)) {
                return BAD;
            }
        }
        for (int street : members) {
            if (!isStreet(street) || streets.get(street).cost == 0) {
                return BAD;
            }
        }
        Choice best = null;
        for (int code = 0; code < Math.pow(n + 1, members.size()); code++) {
            Choice tried = planOf(code, members, n, money);
            best = tried != null && tried.isBetterThan(best) ? tried : best;
        }
        planned.clear();
        for (int i = 0; i < members.size(); i++) {
            planned.put(members.get(i), best.chosen[i] == n ? NOT : thisYear + best.chosen[i]);
        }
        return -best.rank[0];
    }

    /** The plan that a number tells by its digits to the base n + 1; null if some year's money is not enough. */
    private Choice planOf(int code, List<Integer> members, int n, int[] money) {
        Choice plan = new Choice(new int[] {0, 0}, new int[0]);
        int[] spent = new int[4];
        int rest = code;
        for (int street : members) {
            int y = rest % (n + 1);
            rest /= n + 1;
            Street s = streets.get(street);
            int price = y == n ? 0 : s.cost - (s.savingYear == thisYear + y ? s.saving : 0);
            int worn = y == n ? 0 : wear(s, thisYear + y);
            spent[y] += price;
            plan = plan.with(new int[] {plan.rank[0] - worn, plan.rank[1] + price}, y);
        }
        for (int y = 0; y < n; y++) {
            if (spent[y] > money[y]) {
                return null;
            }
        }
        return plan;
    }

    // ---- houses, acts

    private int house(int places, int corner, int value) {
        boolean isCorner = corner != -1;
        if (!isPlace(places) || isCorner && !isPlace(corner) || !in(value, 0, 999)) {
            return BAD;
        }
        if (isCorner && places / 100 == corner / 100) {
            return BAD;
        }
        if (houses.size() == 60) {
            return FULL;
        }
        int[] in = isCorner ? new int[] {places / 100, corner / 100} : new int[] {places / 100};
        int[] fronts = isCorner ? new int[] {places % 100, corner % 100} : new int[] {places % 100};
        houses.add(new House(in, fronts, value));
        return houses.size() - 1;
    }

    private boolean isPlace(int places) {
        return places >= 0 && isStreet(places / 100) && in(places % 100, 1, 99);
    }

    private int feed(int n, int v) {
        if (!in(n, 1, 4)) {
            return BAD;
        }
        if (tape.length() + n > 160) {
            return FULL;
        }
        for (int i = 0, rest = v; i < n; i++, rest >>= 8) {
            tape.append((char) (rest & 0xff));
        }
        return tape.length();
    }

    private int act(int kind, int from) {
        if (!in(kind, 0, 1) || !isDay(from)) {
            return BAD;
        }
        if (acts.size() == 20) {
            return FULL;
        }
        String text = tape.toString();
        tape.setLength(0);
        int fault = PlainText.fault(text, kind);
        if (fault >= 0) {
            return -100 - fault;
        }
        acts.add(new Act(kind, today, from, text));
        return acts.size() - 1;
    }

    private int inForce(int kind, int day, int k) {
        int found = NOT;
        for (int i = 0; i < acts.size(); i++) {
            Act act = acts.get(i);
            if (act.kind == kind && act.passed <= k && act.from <= day) {
                found = i;
            }
        }
        return found;
    }

    private static PlainText readerFor(House h, int part, int day) {
        int other = h.fronts.length == 2 ? h.fronts[1 - part] : 0;
        return new PlainText(0, h.fronts[part], other, h.value, h.streets[part], h.streets.length - 1, day / 365);
    }

    private int part(House h, int part, int day, int k) {
        int act = inForce(0, day, k);
        return act == NOT ? 0 : Math.max(0, Math.min(1000000, readerFor(h, part, day).given(acts.get(act).text)));
    }

    private int rate(int house, int day, int k) {
        if (!in(house, 0, houses.size() - 1) || !isDay(day) || !isDay(k)) {
            return VOID;
        }
        House h = houses.get(house);
        int together = 0;
        for (int part = 0; part < h.streets.length; part++) {
            together += part(h, part, day, k);
        }
        return together;
    }

    private int rates(int street, int day) {
        if (!isStreet(street) || !isDay(day)) {
            return VOID;
        }
        int together = 0;
        for (House h : houses) {
            for (int part = 0; part < h.streets.length; part++) {
                together += h.streets[part] == street ? part(h, part, day, day) : 0;
            }
        }
        return together;
    }

    private int clause(int house, int day) {
        if (!in(house, 0, houses.size() - 1) || !isDay(day)) {
            return BAD;
        }
        int act = inForce(0, day, day);
        int clause = act == NOT ? -1 : readerFor(houses.get(house), 0, day).givingClause(acts.get(act).text);
        return clause < 0 ? NOT : clause;
    }

    // ---- openings

    private int open(int company, int street, int at, int leave) {
        if (!in(company, 0, 3) || !isAt(street, at) || !in(leave, 1, 99)) {
            return BAD;
        }
        for (Opening o : openings) {
            if (o.street == street && o.at == at && o.back < 0) {
                return NOT;
            }
        }
        if (openings.size() == 200) {
            return FULL;
        }
        Opening o = new Opening();
        o.company = company;
        o.street = street;
        o.at = at;
        o.day = today;
        o.leave = leave;
        openings.add(o);
        return openings.size() - 1;
    }

    private int back(int opening) {
        if (!in(opening, 0, openings.size() - 1)) {
            return BAD;
        }
        Opening o = openings.get(opening);
        if (o.back >= 0) {
            return NOT;
        }
        o.back = today;
        return today - o.day;
    }

    private int penalty(int opening, int day, int k) {
        if (!in(opening, 0, openings.size() - 1) || !in(day, 0, today) || !isDay(k)) {
            return VOID;
        }
        Opening o = openings.get(opening);
        int act = inForce(1, day, k);
        if (act == NOT || day < o.day) {
            return 0;
        }
        int d = (o.back >= 0 && o.back < day ? o.back : day) - o.day;
        int l = d <= o.leave ? 0 : d - o.leave;
        int n = (int) openings.stream().filter(p -> p.company == o.company && p.back < 0).count();
        return Math.max(0, Math.min(1000000, new PlainText(1, d, l, o.company, o.street, n).given(acts.get(act).text)));
    }

    private int sink(int street, int at) {
        if (!isAt(street, at)) {
            return BAD;
        }
        int found = NOT;
        int latest = -1;
        for (int i = 0; i < openings.size(); i++) {
            Opening o = openings.get(i);
            int until = o.back < 0 ? 10000 : o.back;
            if (o.street == street && o.at == at && until >= latest) {
                found = i;
                latest = until;
            }
        }
        return found;
    }

    private int opening(int opening, int what) {
        if (!in(opening, 0, openings.size() - 1) || !in(what, 0, 5)) {
            return -2;
        }
        Opening o = openings.get(opening);
        return new int[] {o.company, o.street, o.at, o.day, o.leave, o.back}[what];
    }

    // ---- measures

    private int draw(int all, int n, int z) {
        if (!in(all, 1, 40) || !in(n, 1, all)) {
            return BAD;
        }
        List<Integer> rest = new ArrayList<>();
        for (int i = 0; i < all; i++) {
            rest.add(i);
        }
        drawn = new ArrayList<>();
        BigInteger number = BigInteger.valueOf(z);
        for (int i = 0; i < n; i++) {
            number = number.multiply(BigInteger.valueOf(1103515245)).add(BigInteger.valueOf(12345)).mod(BigInteger.ONE.shiftLeft(32));
            int place = number.shiftRight(8).mod(BigInteger.valueOf(rest.size())).intValue();
            drawn.add(rest.remove(place));
        }
        return n;
    }

    private static int bad(int all, int n, int b, int p) {
        if (!in(all, 1, 40) || !in(n, 1, all) || !in(b, 0, n) || !in(p, 1, 9999)) {
            return BAD;
        }
        int found = BAD;
        for (int bad = b; bad <= all - n + b; bad++) {
            BigInteger few = BigInteger.ZERO;
            for (int i = 0; i <= b; i++) {
                few = few.add(choose(bad, i).multiply(choose(all - bad, n - i)));
            }
            BigInteger wanted = choose(all, n).multiply(BigInteger.valueOf(p));
            found = few.multiply(BigInteger.valueOf(10000)).compareTo(wanted) >= 0 ? bad : found;
        }
        return found;
    }

    private static BigInteger choose(int n, int k) {
        if (k > n) {
            return BigInteger.ZERO;
        }
        BigInteger ways = BigInteger.ONE;
        for (int i = 0; i < k; i++) {
            ways = ways.multiply(BigInteger.valueOf(n - i)).divide(BigInteger.valueOf(i + 1));
        }
        return ways;
    }

    private int count(int what) {
        int open = (int) openings.stream().filter(o -> o.back < 0).count();
        int[] counts = {streets.size(), houses.size(), acts.size(), openings.size(), open, today, thisYear, tape.length(),
            Arrays.stream(stones).sum()};
        return in(what, 0, 8) ? counts[what] : BAD;
    }
}
