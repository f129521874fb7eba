import java.util.Arrays;

/** A trust that keeps a parish's streets; ../shared/DOC.md says what each call must answer. */
public final class PavingTrust {
    public static final int BAD = -1, NOT = -2, FULL = -3, VOID = -2000000000;

    private static final int MAX_STREETS = 8;
    private static final int MAX_ROWS = 16;
    private static final int MAX_COLUMNS = 9;
    private static final int MAX_SQUARES = MAX_ROWS * MAX_COLUMNS;
    private static final int MAX_HEIGHT = 99;
    private static final int ROW_STEP = 16;
    private static final int DRAIN_MARK = 1000;
    private static final int MAX_SIZE = 9;
    private static final int MAX_STOCK = 999;
    private static final int MAX_WIDTH = 60;
    private static final int LAST_YEAR = 30;
    private static final int LAST_YEAR_AHEAD = 40;
    private static final int MAX_WHEELS = 9999;
    private static final int MAX_COST = 9999;
    private static final int MAX_MONEY = 99999;
    private static final int MAX_PLAN_STREETS = 6;
    private static final int MAX_PLAN_YEARS = 3;
    private static final int MAX_HOUSES = 60;
    private static final int MAX_VALUE = 999;
    private static final int LAST_DAY = 9999;
    private static final int DAYS_A_YEAR = 365;
    private static final int MAX_ACTS = 20;
    private static final int MAX_TAPE = 160;
    private static final int MAX_GIVEN = 1000000;
    private static final int KIND_RATE = 0;
    private static final int KIND_PENALTY = 1;
    private static final int FAULT_BASE = -100;
    private static final int MAX_OPENINGS = 200;
    private static final int MAX_COMPANY = 3;
    private static final int MAX_LEAVE = 99;
    private static final int MAX_LOTS = 40;
    private static final int NONE = -1;

    private final Street[] streets;
    private int streetCount;
    private final Flow flow;
    private final Leveller leveller;
    private final Yard yard;
    private int thisYear;
    private final Planner planner;
    private final House[] houses;
    private int houseCount;
    private int today;
    private final ActBook actBook;
    private final Opening[] openings;
    private int openingCount;
    private final Lots lots;

    public PavingTrust() {
        streets = new Street[MAX_STREETS];
        flow = new Flow();
        leveller = new Leveller();
        yard = new Yard();
        planner = new Planner();
        houses = new House[MAX_HOUSES];
        actBook = new ActBook();
        openings = new Opening[MAX_OPENINGS];
        lots = new Lots();
    }

    // ---- heights

    public int street(int rows, int columns, int h) {
        if (!within(rows, 1, MAX_ROWS) || !within(columns, 1, MAX_COLUMNS) || !within(h, 0, MAX_HEIGHT)) {
            return BAD;
        }
        if (streetCount >= MAX_STREETS) {
            return FULL;
        }
        streets[streetCount] = new Street(rows, columns, h);
        streetCount++;
        return streetCount - 1;
    }

    public int height(int street, int row, int column, int h) {
        Street s = findStreet(street);
        if (s == null || !s.has(row, column) || !within(h, 0, MAX_HEIGHT)) {
            return BAD;
        }
        int place = s.placeOf(row, column);
        int was = s.heights[place];
        s.heights[place] = h;
        return was;
    }

    public int read(int street, int row, int column) {
        Street s = findStreet(street);
        if (s == null || !s.has(row, column)) {
            return BAD;
        }
        return s.heights[s.placeOf(row, column)];
    }

    public int drain(int street, int row, int column, int is) {
        Street s = findStreet(street);
        if (s == null || !s.has(row, column) || !within(is, 0, 1)) {
            return BAD;
        }
        int place = s.placeOf(row, column);
        int was = s.drains[place];
        s.drains[place] = is;
        return was;
    }

    public int water(int street, int row, int column) {
        Street s = findStreet(street);
        if (s == null || !s.has(row, column)) {
            return BAD;
        }
        int end = s.endOfWater(s.placeOf(row, column));
        int answer = ROW_STEP * s.rowOf(end) + s.columnOf(end);
        return s.drains[end] == 1 ? answer + DRAIN_MARK : answer;
    }

    public int standing(int street) {
        Street s = findStreet(street);
        return s == null ? BAD : flow.countStanding(s);
    }

    public int most(int street) {
        Street s = findStreet(street);
        return s == null ? BAD : flow.countMost(s);
    }

    public int level(int street, int row, int kennel, int falls) {
        Street s = findStreet(street);
        if (s == null || !s.has(row, kennel) || !within(falls, 0, 99) || falls / 10 > falls % 10) {
            return BAD;
        }
        return leveller.levelRow(s, row, kennel, falls / 10, falls % 10);
    }

    public int levelled(int column) {
        return leveller.newHeight(column);
    }

    public int move() {
        return leveller.carryOut();
    }

    // ---- stones

    public int stones(int size, int n) {
        if (!within(size, 1, MAX_SIZE) || !within(n, 1, 99)) {
            return BAD;
        }
        return yard.bring(size, n);
    }

    public int course(int w) {
        return within(w, 1, MAX_WIDTH) ? yard.tellCourse(w) : BAD;
    }

    public int of(int size) {
        return within(size, 1, MAX_SIZE) ? yard.toldOf(size) : BAD;
    }

    public int lay(int w) {
        return within(w, 1, MAX_WIDTH) ? yard.layCourse(w) : BAD;
    }

    // ---- years

    public int year() {
        if (thisYear >= LAST_YEAR) {
            return NOT;
        }
        thisYear++;
        return thisYear;
    }

    public int wheels(int street, int year, int n) {
        Street s = findStreet(street);
        if (s == null || !within(year, 0, thisYear) || !within(n, NONE, MAX_WHEELS)) {
            return BAD;
        }
        s.wheelsIn[year] = n;
        return 1;
    }

    public int pave(int street) {
        Street s = findStreet(street);
        if (s == null) {
            return BAD;
        }
        int worn = s.wearAt(thisYear, thisYear);
        s.pavedIn = thisYear;
        return worn;
    }

    public int wear(int street, int year) {
        Street s = findStreet(street);
        if (s == null || !within(year, 0, LAST_YEAR_AHEAD)) {
            return BAD;
        }
        return s.wearAt(year, thisYear);
    }

    public int cost(int street, int cost, int saving, int year) {
        Street s = findStreet(street);
        if (s == null || !within(cost, 1, MAX_COST) || !within(saving, 0, cost)
                || !within(year, 0, LAST_YEAR_AHEAD)) {
            return BAD;
        }
        s.fullCost = cost;
        s.savedCost = saving;
        s.savingYear = year;
        return 1;
    }

    public int plan(int set, int n, int a, int b, int c) {
        if (!isPlanSet(set) || !within(n, 1, MAX_PLAN_YEARS) || !within(a, 0, MAX_MONEY)
                || !within(b, 0, n >= 2 ? MAX_MONEY : 0) || !within(c, 0, n >= 3 ? MAX_MONEY : 0)) {
            return BAD;
        }
        planner.begin(n, a, b, c);
        for (int i = 0; i < streetCount; i++) {
            Street s = streets[i];
            if ((set >> i & 1) == 1 && s != null) {
                planner.join(i, s, thisYear);
            }
        }
        return planner.findBest(thisYear);
    }

    public int planned(int street) {
        return planner.yearOf(street);
    }

    // ---- houses, acts

    public int house(int places, int corner, int value) {
        if (!isFrontage(places) || !within(value, 0, MAX_VALUE)) {
            return BAD;
        }
        if (corner != NONE && (!isFrontage(corner) || corner / 100 == places / 100)) {
            return BAD;
        }
        if (houseCount >= MAX_HOUSES) {
            return FULL;
        }
        houses[houseCount] = new House(places, corner, value);
        houseCount++;
        return houseCount - 1;
    }

    public int days(int n) {
        if (!within(n, 1, 100) || today + n > LAST_DAY) {
            return BAD;
        }
        today += n;
        return today;
    }

    public int feed(int n, int v) {
        return within(n, 1, 4) ? actBook.writeTape(n, v) : BAD;
    }

    public int act(int kind, int from) {
        if (!isKind(kind) || !isDay(from)) {
            return BAD;
        }
        return actBook.pass(kind, from, today);
    }

    public int inForce(int kind, int day, int k) {
        if (!isKind(kind) || !isDay(day) || !isDay(k)) {
            return BAD;
        }
        int number = actBook.numberInForce(kind, day, k);
        return number == NONE ? NOT : number;
    }

    public int rate(int house, int day, int k) {
        House h = findHouse(house);
        if (h == null || !isDay(day) || !isDay(k)) {
            return VOID;
        }
        Act act = actBook.findInForce(KIND_RATE, day, k);
        int together = actBook.givePart(act, h, false, day);
        if (h.isCorner()) {
            together += actBook.givePart(act, h, true, day);
        }
        return together;
    }

    public int rates(int street, int day) {
        if (findStreet(street) == null || !isDay(day)) {
            return VOID;
        }
        Act act = actBook.findInForce(KIND_RATE, day, day);
        int together = 0;
        for (int i = 0; i < houseCount; i++) {
            House h = houses[i];
            if (h != null && h.hasPartIn(street)) {
                together += actBook.givePart(act, h, h.firstStreet != street, day);
            }
        }
        return together;
    }

    public int clause(int house, int day) {
        House h = findHouse(house);
        if (h == null || !isDay(day)) {
            return BAD;
        }
        Act act = actBook.findInForce(KIND_RATE, day, day);
        if (act == null) {
            return NOT;
        }
        actBook.givePart(act, h, false, day);
        int place = actBook.reader.givingClause;
        return place == NONE ? NOT : place;
    }

    // ---- openings

    public int open(int company, int street, int at, int leave) {
        if (!within(company, 0, MAX_COMPANY) || !isSquare(street, at) || !within(leave, 1, MAX_LEAVE)) {
            return BAD;
        }
        if (openNowAt(street, at) != NONE) {
            return NOT;
        }
        if (openingCount >= MAX_OPENINGS) {
            return FULL;
        }
        openings[openingCount] = new Opening(company, street, at, today, leave);
        openingCount++;
        return openingCount - 1;
    }

    public int back(int opening) {
        Opening o = findOpening(opening);
        if (o == null) {
            return BAD;
        }
        if (!o.isOpen()) {
            return NOT;
        }
        o.backDay = today;
        return today - o.openedDay;
    }

    public int penalty(int opening, int day, int k) {
        Opening o = findOpening(opening);
        if (o == null || !within(day, 0, today) || !isDay(k)) {
            return VOID;
        }
        if (day < o.openedDay) {
            return 0;
        }
        Act act = actBook.findInForce(KIND_PENALTY, day, k);
        return actBook.givePenalty(act, o, day, countOpen(o.company));
    }

    public int sink(int street, int at) {
        if (!isSquare(street, at)) {
            return BAD;
        }
        int open = openNowAt(street, at);
        int found = open != NONE ? open : lastPutBackAt(street, at);
        return found == NONE ? NOT : found;
    }

    public int opening(int opening, int what) {
        Opening o = findOpening(opening);
        if (o == null) {
            // -1 is an answer of its own here (not put back yet), so BAD is told as -2
            return NOT;
        }
        switch (what) {
            case 0: return o.company;
            case 1: return o.street;
            case 2: return o.square;
            case 3: return o.openedDay;
            case 4: return o.leaveDays;
            case 5: return o.backDay;
            default: return NOT;
        }
    }

    // ---- measures

    public int draw(int all, int n, int z) {
        if (!within(all, 1, MAX_LOTS) || !within(n, 1, all)) {
            return BAD;
        }
        return lots.drawLots(all, n, z);
    }

    public int drawn(int i) {
        return lots.lotAt(i);
    }

    public int bad(int all, int n, int b, int p) {
        if (!within(all, 1, MAX_LOTS) || !within(n, 1, all) || !within(b, 0, n) || !within(p, 1, 9999)) {
            return BAD;
        }
        return lots.mostBad(all, n, b, p);
    }

    public int count(int what) {
        switch (what) {
            case 0: return streetCount;
            case 1: return houseCount;
            case 2: return actBook.actCount;
            case 3: return openingCount;
            case 4: return countAllOpen();
            case 5: return today;
            case 6: return thisYear;
            case 7: return actBook.tapeLength;
            case 8: return yard.countAll();
            default: return BAD;
        }
    }

    // ---- what the calls share

    private static boolean within(int n, int least, int greatest) {
        return n >= least && n <= greatest;
    }

    private static boolean isDay(int day) {
        return within(day, 0, LAST_DAY);
    }

    private static boolean isKind(int kind) {
        return kind == KIND_RATE || kind == KIND_PENALTY;
    }

    private Street findStreet(int number) {
        return number >= 0 && number < streetCount ? streets[number] : null;
    }

    private House findHouse(int number) {
        return number >= 0 && number < houseCount ? houses[number] : null;
    }

    private Opening findOpening(int number) {
        return number >= 0 && number < openingCount ? openings[number] : null;
    }

    private boolean isFrontage(int places) {
        return places >= 0 && findStreet(places / 100) != null && places % 100 != 0;
    }

    private boolean isSquare(int street, int at) {
        Street s = findStreet(street);
        return s != null && at >= 0 && s.has(at / ROW_STEP, at % ROW_STEP);
    }

    private boolean isPlanSet(int set) {
        // a bit beyond the streets made so far names a street that is none
        if (set < 0 || set >> streetCount != 0 || !within(Integer.bitCount(set), 1, MAX_PLAN_STREETS)) {
            return false;
        }
        for (int i = 0; i < streetCount; i++) {
            Street s = streets[i];
            if ((set >> i & 1) == 1 && (s == null || s.fullCost == 0)) {
                return false;
            }
        }
        return true;
    }

    private int openNowAt(int street, int at) {
        for (int i = 0; i < openingCount; i++) {
            Opening o = openings[i];
            if (o != null && o.isAt(street, at) && o.isOpen()) {
                return i;
            }
        }
        return NONE;
    }

    private int lastPutBackAt(int street, int at) {
        int found = NONE;
        int lastDay = NONE;
        for (int i = 0; i < openingCount; i++) {
            Opening o = openings[i];
            // not only later days: of one day the greater number is meant
            if (o != null && o.isAt(street, at) && !o.isOpen() && o.backDay >= lastDay) {
                found = i;
                lastDay = o.backDay;
            }
        }
        return found;
    }

    private int countOpen(int company) {
        int n = 0;
        for (int i = 0; i < openingCount; i++) {
            Opening o = openings[i];
            if (o != null && o.company == company && o.isOpen()) {
                n++;
            }
        }
        return n;
    }

    private int countAllOpen() {
        int n = 0;
        for (int company = 0; company <= MAX_COMPANY; company++) {
            n += countOpen(company);
        }
        return n;
    }

    /** A street: its squares row by row, its wheels by years and what paving it costs. */
    private static final class Street {
        final int rows;
        final int columns;
        final int[] heights;
        final int[] drains;
        final int[] wheelsIn;
        int pavedIn;
        int fullCost;
        int savedCost;
        int savingYear;

        Street(int rows, int columns, int h) {
            this.rows = rows;
            this.columns = columns;
            heights = new int[rows * columns];
            Arrays.fill(heights, h);
            drains = new int[rows * columns];
            wheelsIn = new int[LAST_YEAR + 1];
            Arrays.fill(wheelsIn, NONE);
        }

        boolean has(int row, int column) {
            return row >= 0 && row < rows && column >= 0 && column < columns;
        }

        int placeOf(int row, int column) {
            return row * columns + column;
        }

        int rowOf(int place) {
            return columns == 0 ? 0 : place / columns;
        }

        int columnOf(int place) {
            return columns == 0 ? 0 : place % columns;
        }

        /** The place to which water goes on from a place; that place itself where it stays. */
        int nextOfWater(int place) {
            if (drains[place] == 1) {
                return place;
            }
            int row = rowOf(place);
            int column = columnOf(place);
            int lowest = lowerOf(place, row - 1, column);
            lowest = lowerOf(lowest, row, column - 1);
            lowest = lowerOf(lowest, row, column + 1);
            return lowerOf(lowest, row + 1, column);
        }

        private int lowerOf(int place, int row, int column) {
            if (!has(row, column)) {
                return place;
            }
            int other = placeOf(row, column);
            return heights[other] < heights[place] ? other : place;
        }

        int endOfWater(int place) {
            int here = place;
            for (int steps = 0; steps < MAX_SQUARES; steps++) {
                int next = nextOfWater(here);
                if (next == here) {
                    return here;
                }
                here = next;
            }
            return here;
        }

        int wearAt(int year, int thisYear) {
            int mean = meanWheels(thisYear);
            int worn = 0;
            for (int y = pavedIn; y < year; y++) {
                boolean isTold = y >= 0 && y < wheelsIn.length && wheelsIn[y] != NONE;
                worn += isTold ? wheelsIn[y] : mean;
            }
            return worn;
        }

        private int meanWheels(int thisYear) {
            int together = 0;
            int years = 0;
            for (int y = 0; y < thisYear && y < wheelsIn.length; y++) {
                if (wheelsIn[y] != NONE) {
                    together += wheelsIn[y];
                    years++;
                }
            }
            return years == 0 ? 0 : together / years;
        }

        int costIn(int year) {
            return year == savingYear ? fullCost - savedCost : fullCost;
        }
    }

    /** Where water comes to from all squares of a street at once; its rows are used again by each call. */
    private static final class Flow {
        final int[] ends;
        final int[] comers;

        Flow() {
            ends = new int[MAX_SQUARES];
            comers = new int[MAX_SQUARES];
        }

        int countStanding(Street s) {
            findEnds(s);
            int n = 0;
            for (int place = 0; place < s.heights.length; place++) {
                if (s.drains[ends[place]] == 0) {
                    n++;
                }
            }
            return n;
        }

        int countMost(Street s) {
            findEnds(s);
            Arrays.fill(comers, 0);
            int greatest = 0;
            for (int place = 0; place < s.heights.length; place++) {
                // all water that passes a square comes to its end too, so ends alone need counting
                comers[ends[place]]++;
                greatest = Math.max(greatest, comers[ends[place]]);
            }
            return greatest;
        }

        private void findEnds(Street s) {
            for (int place = 0; place < s.heights.length; place++) {
                ends[place] = s.nextOfWater(place);
            }
            // each round at least doubles how far the water of every square has been led on
            for (int reach = 1; reach < MAX_SQUARES; reach *= 2) {
                for (int place = 0; place < s.heights.length; place++) {
                    ends[place] = ends[ends[place]];
                }
            }
        }
    }

    /** Levels a row with the least moved earth, and keeps the latest levelling until it is done. */
    private static final class Leveller {
        private static final int HEIGHTS = MAX_HEIGHT + 1;
        private static final int NO_WAY = 1000000;

        /** Least earth of a column and all behind it, by the column's new height. */
        final int[] least;
        final int[] before;
        final int[] after;
        Street street;
        int row;
        int earth;
        int kennel;
        int leastFall;
        int greatestFall;

        Leveller() {
            least = new int[MAX_COLUMNS * HEIGHTS];
            before = new int[MAX_COLUMNS];
            after = new int[MAX_COLUMNS];
        }

        int levelRow(Street s, int wantedRow, int wantedKennel, int f, int g) {
            kennel = wantedKennel;
            leastFall = f;
            greatestFall = g;
            for (int column = s.columns - 1; column >= 0; column--) {
                weighColumn(s, column, s.heights[s.placeOf(wantedRow, column)]);
            }
            int first = bestHeight(0, 0, MAX_HEIGHT);
            if (first == NONE) {
                return NOT;
            }
            street = s;
            row = wantedRow;
            earth = least[first];
            keepHeights(s, first);
            return earth;
        }

        private void weighColumn(Street s, int column, int old) {
            for (int h = 0; h < HEIGHTS; h++) {
                int moved = Math.abs(h - old);
                if (column + 1 < s.columns) {
                    int next = bestHeight(column + 1, lowestBehind(column, h), highestBehind(column, h));
                    moved = next == NONE ? NO_WAY : moved + least[(column + 1) * HEIGHTS + next];
                }
                least[column * HEIGHTS + h] = moved;
            }
        }

        private int lowestBehind(int column, int h) {
            return column < kennel ? h - greatestFall : h + leastFall;
        }

        private int highestBehind(int column, int h) {
            return column < kennel ? h - leastFall : h + greatestFall;
        }

        /** The lowest of the best heights of a column between two heights; NONE if none is possible. */
        private int bestHeight(int column, int from, int to) {
            int best = NONE;
            int bestEarth = NO_WAY;
            int last = Math.min(to, MAX_HEIGHT);
            for (int h = Math.max(from, 0); h <= last; h++) {
                int moved = least[column * HEIGHTS + h];
                if (moved < bestEarth) {
                    best = h;
                    bestEarth = moved;
                }
            }
            return best;
        }

        private void keepHeights(Street s, int first) {
            int h = first;
            for (int column = 0; column < s.columns; column++) {
                if (column > 0) {
                    h = bestHeight(column, lowestBehind(column - 1, h), highestBehind(column - 1, h));
                }
                before[column] = s.heights[s.placeOf(row, column)];
                after[column] = h;
            }
        }

        int newHeight(int column) {
            Street s = street;
            if (s == null || column < 0 || column >= s.columns) {
                return BAD;
            }
            return after[column];
        }

        int carryOut() {
            Street s = street;
            if (s == null || !isRowAsBefore(s)) {
                return NOT;
            }
            for (int column = 0; column < s.columns; column++) {
                s.heights[s.placeOf(row, column)] = after[column];
            }
            street = null;
            return earth;
        }

        private boolean isRowAsBefore(Street s) {
            for (int column = 0; column < s.columns; column++) {
                if (s.heights[s.placeOf(row, column)] != before[column]) {
                    return false;
                }
            }
            return true;
        }
    }

    /** The yard of stones, and the latest course told of it. */
    private static final class Yard {
        private static final int WIDTHS = MAX_WIDTH + 1;
        private static final int NO_WAY = 1000000;

        final int[] stock;
        /** Fewest stones of sizes 1 .. s for a width, at s * WIDTHS + width. */
        final int[] fewest;
        final int[] chosen;
        final int[] told;
        boolean isTold;

        Yard() {
            stock = new int[MAX_SIZE + 1];
            fewest = new int[(MAX_SIZE + 1) * WIDTHS];
            chosen = new int[MAX_SIZE + 1];
            told = new int[MAX_SIZE + 1];
        }

        int bring(int size, int n) {
            if (stock[size] + n > MAX_STOCK) {
                return NOT;
            }
            stock[size] += n;
            return stock[size];
        }

        int tellCourse(int w) {
            int n = chooseCourse(w);
            if (n == NOT) {
                return NOT;
            }
            for (int size = 1; size <= MAX_SIZE; size++) {
                told[size] = chosen[size];
            }
            isTold = true;
            return n;
        }

        int toldOf(int size) {
            return isTold ? told[size] : BAD;
        }

        int layCourse(int w) {
            int n = chooseCourse(w);
            if (n == NOT) {
                return NOT;
            }
            for (int size = 1; size <= MAX_SIZE; size++) {
                stock[size] -= chosen[size];
            }
            return n;
        }

        private int chooseCourse(int w) {
            for (int width = 0; width <= w; width++) {
                fewest[width] = width == 0 ? 0 : NO_WAY;
            }
            for (int size = 1; size <= MAX_SIZE; size++) {
                for (int width = 0; width <= w; width++) {
                    int n = countFor(size, width);
                    fewest[size * WIDTHS + width] = n + fewest[(size - 1) * WIDTHS + width - n * size];
                }
            }
            if (fewest[MAX_SIZE * WIDTHS + w] >= NO_WAY) {
                return NOT;
            }
            int rest = w;
            for (int size = MAX_SIZE; size >= 1; size--) {
                chosen[size] = countFor(size, rest);
                rest -= chosen[size] * size;
            }
            return fewest[MAX_SIZE * WIDTHS + w];
        }

        /** How many of a size a best course of sizes up to it has; the most of several. */
        private int countFor(int size, int width) {
            int best = 0;
            int bestStones = NO_WAY;
            for (int n = 0; n <= stock[size] && n * size <= width; n++) {
                int all = n + fewest[(size - 1) * WIDTHS + width - n * size];
                if (all <= bestStones) {
                    best = n;
                    bestStones = all;
                }
            }
            return best;
        }

        int countAll() {
            int all = 0;
            for (int size = 1; size <= MAX_SIZE; size++) {
                all += stock[size];
            }
            return all;
        }
    }

    /** Tries all plans for some streets in the order in which the first of equals is meant. */
    private static final class Planner {
        final int[] members;
        final int[] wears;
        final int[] costs;
        final int[] left;
        final int[] choice;
        final int[] bestChoice;
        /** By street: its year, NOT if in none, BAD if it was not in the set. */
        final int[] told;
        int memberCount;
        int years;
        int bestWorth;
        int bestCost;

        Planner() {
            members = new int[MAX_PLAN_STREETS];
            wears = new int[MAX_PLAN_STREETS * MAX_PLAN_YEARS];
            costs = new int[MAX_PLAN_STREETS * MAX_PLAN_YEARS];
            left = new int[MAX_PLAN_YEARS];
            choice = new int[MAX_PLAN_STREETS];
            bestChoice = new int[MAX_PLAN_STREETS];
            told = new int[MAX_STREETS];
            Arrays.fill(told, BAD);
        }

        void begin(int n, int a, int b, int c) {
            years = n;
            left[0] = a;
            left[1] = b;
            left[2] = c;
            memberCount = 0;
            bestWorth = NONE;
            bestCost = 0;
        }

        void join(int number, Street s, int thisYear) {
            if (memberCount >= MAX_PLAN_STREETS) {
                return;
            }
            members[memberCount] = number;
            for (int y = 0; y < years; y++) {
                wears[memberCount * MAX_PLAN_YEARS + y] = s.wearAt(thisYear + y, thisYear);
                costs[memberCount * MAX_PLAN_YEARS + y] = s.costIn(thisYear + y);
            }
            memberCount++;
        }

        int findBest(int thisYear) {
            tryFrom(0, 0, 0);
            Arrays.fill(told, BAD);
            for (int i = 0; i < memberCount; i++) {
                told[members[i]] = bestChoice[i] == years ? NOT : thisYear + bestChoice[i];
            }
            return bestWorth;
        }

        private void tryFrom(int member, int worth, int cost) {
            if (member >= memberCount || member >= MAX_PLAN_STREETS) {
                keepIfBetter(worth, cost);
                return;
            }
            for (int y = 0; y < years; y++) {
                int price = costs[member * MAX_PLAN_YEARS + y];
                if (price <= left[y]) {
                    left[y] -= price;
                    choice[member] = y;
                    tryFrom(member + 1, worth + wears[member * MAX_PLAN_YEARS + y], cost + price);
                    left[y] += price;
                }
            }
            choice[member] = years;
            tryFrom(member + 1, worth, cost);
        }

        private void keepIfBetter(int worth, int cost) {
            if (worth > bestWorth || worth == bestWorth && cost < bestCost) {
                bestWorth = worth;
                bestCost = cost;
                System.arraycopy(choice, 0, bestChoice, 0, MAX_PLAN_STREETS);
            }
        }

        int yearOf(int street) {
            return street >= 0 && street < told.length ? told[street] : BAD;
        }
    }

    /** A house, told by numbers of 100 times a street and its front there. */
    private static final class House {
        final int firstStreet;
        final int firstFront;
        final int secondStreet;
        final int secondFront;
        final int worth;

        House(int places, int corner, int value) {
            firstStreet = places / 100;
            firstFront = places % 100;
            secondStreet = corner == NONE ? NONE : corner / 100;
            secondFront = corner == NONE ? 0 : corner % 100;
            worth = value;
        }

        boolean isCorner() {
            return secondStreet != NONE;
        }

        boolean hasPartIn(int street) {
            return firstStreet == street || secondStreet == street;
        }
    }

    /** An act as it was passed. */
    private static final class Act {
        final int kind;
        final int passedOn;
        final int forceFrom;
        final byte[] text;

        Act(int kind, int passedOn, int forceFrom, byte[] text) {
            this.kind = kind;
            this.passedOn = passedOn;
            this.forceFrom = forceFrom;
            this.text = text;
        }
    }

    /** The tape, the acts passed from it, and what they give. */
    private static final class ActBook {
        final byte[] tape;
        final Act[] acts;
        final TextReader reader;
        int tapeLength;
        int actCount;

        ActBook() {
            tape = new byte[MAX_TAPE];
            acts = new Act[MAX_ACTS];
            reader = new TextReader();
        }

        int writeTape(int n, int v) {
            if (tapeLength + n > MAX_TAPE) {
                return FULL;
            }
            for (int i = 0; i < n; i++) {
                tape[tapeLength] = (byte) (v >>> 8 * i);
                tapeLength++;
            }
            return tapeLength;
        }

        int pass(int kind, int from, int today) {
            if (actCount >= MAX_ACTS) {
                return FULL;
            }
            int length = tapeLength;
            tapeLength = 0;
            reader.readText(tape, length, kind);
            if (reader.fault != NONE) {
                return FAULT_BASE - reader.fault;
            }
            acts[actCount] = new Act(kind, today, from, Arrays.copyOf(tape, length));
            actCount++;
            return actCount - 1;
        }

        int numberInForce(int kind, int day, int k) {
            // days only go on, so the one passed last has the greatest number
            for (int i = actCount - 1; i >= 0; i--) {
                Act act = acts[i];
                if (act != null && act.kind == kind && act.passedOn <= k && act.forceFrom <= day) {
                    return i;
                }
            }
            return NONE;
        }

        Act findInForce(int kind, int day, int k) {
            int number = numberInForce(kind, day, k);
            return number == NONE ? null : acts[number];
        }

        int givePart(Act act, House h, boolean ofSecond, int day) {
            if (act == null) {
                return 0;
            }
            int[] values = reader.values;
            values[0] = ofSecond ? h.secondFront : h.firstFront;
            values[1] = ofSecond ? h.firstFront : h.secondFront;
            values[2] = h.worth;
            values[3] = ofSecond ? h.secondStreet : h.firstStreet;
            values[4] = h.isCorner() ? 1 : 0;
            values[5] = day / DAYS_A_YEAR;
            return keepWithin(reader.readText(act.text, act.text.length, KIND_RATE));
        }

        int givePenalty(Act act, Opening o, int day, int openNow) {
            if (act == null) {
                return 0;
            }
            int daysOpen = o.daysOpenOn(day);
            int[] values = reader.values;
            values[0] = daysOpen;
            values[1] = Math.max(0, daysOpen - o.leaveDays);
            values[2] = o.company;
            values[3] = o.street;
            values[4] = openNow;
            return keepWithin(reader.readText(act.text, act.text.length, KIND_PENALTY));
        }

        private static int keepWithin(int given) {
            return Math.max(0, Math.min(MAX_GIVEN, given));
        }
    }

    /** Reads a text from its first byte on: what it gives by the names' values, or its fault. */
    private static final class TextReader {
        /** The names' places in these are their places in values. */
        private static final String RATE_NAMES = "fgvscy";
        private static final String PENALTY_NAMES = "dlwsn";
        private static final int MAX_NAMES = 6;
        private static final int MAX_DIGITS = 6;
        private static final int MAX_OPEN = 10;
        private static final int END = -1;

        final int[] values;
        byte[] bytes;
        int length;
        int at;
        String names;
        int fault;
        int givingClause;

        TextReader() {
            values = new int[MAX_NAMES];
            bytes = new byte[0];
            names = RATE_NAMES;
        }

        int readText(byte[] text, int textLength, int kind) {
            bytes = text;
            length = Math.min(textLength, text.length);
            at = 0;
            names = kind == KIND_RATE ? RATE_NAMES : PENALTY_NAMES;
            fault = NONE;
            givingClause = NONE;
            int given = 0;
            for (int clause = 0; clause <= MAX_TAPE; clause++) {
                int value = readClause(clause);
                if (givingClause == clause) {
                    given = value;
                }
                if (fault != NONE || peek() == END) {
                    return given;
                }
                if (peek() != ';') {
                    markFault();
                    return given;
                }
                at++;
                if (peek() == END) {
                    return given;
                }
            }
            return given;
        }

        private int readClause(int clause) {
            int value = readExpression(0);
            boolean gives = true;
            if (fault == NONE && peek() == '?') {
                at++;
                gives = value != 0;
                value = readExpression(0);
            }
            if (gives && givingClause == NONE) {
                givingClause = clause;
            }
            return value;
        }

        private int readExpression(int depth) {
            int left = readSum(depth);
            int sign = peek();
            if (fault != NONE || sign != '<' && sign != '=' && sign != '>') {
                return left;
            }
            at++;
            int right = readSum(depth);
            boolean holds = sign == '<' ? left < right : sign == '>' ? left > right : left == right;
            return holds ? 1 : 0;
        }

        private int readSum(int depth) {
            int sum = readProduct(depth);
            for (int i = 0; i < MAX_TAPE && fault == NONE; i++) {
                int sign = peek();
                if (sign != '+' && sign != '-') {
                    return sum;
                }
                at++;
                int right = readProduct(depth);
                sum = sign == '+' ? sum + right : sum - right;
            }
            return sum;
        }

        private int readProduct(int depth) {
            int product = readOperand(depth);
            for (int i = 0; i < MAX_TAPE && fault == NONE; i++) {
                int sign = peek();
                if (sign != '*' && sign != '/' && sign != '%') {
                    return product;
                }
                at++;
                product = multiply(sign, product, readOperand(depth));
            }
            return product;
        }

        private static int multiply(int sign, int left, int right) {
            if (sign == '*') {
                return left * right;
            }
            if (right == 0) {
                return 0;
            }
            return sign == '/' ? left / right : left % right;
        }

        private int readOperand(int depth) {
            int sign = peek();
            if (isDigit(sign)) {
                return readNumber();
            }
            if (sign == '(' && depth < MAX_OPEN) {
                return readParenthesis(depth + 1);
            }
            int name = sign == END ? NONE : names.indexOf((char) sign);
            if (name < 0 || name >= values.length) {
                markFault();
                return 0;
            }
            at++;
            return values[name];
        }

        private int readParenthesis(int depth) {
            at++;
            int value = readExpression(depth);
            if (fault == NONE && peek() != ')') {
                markFault();
            }
            at++;
            return value;
        }

        private int readNumber() {
            int number = 0;
            for (int digits = 0; digits < MAX_DIGITS && isDigit(peek()); digits++) {
                number = number * 10 + peek() - '0';
                at++;
            }
            if (isDigit(peek())) {
                markFault();
            }
            return number;
        }

        private static boolean isDigit(int sign) {
            return sign >= '0' && sign <= '9';
        }

        private int peek() {
            return at < length ? bytes[at] & 255 : END;
        }

        private void markFault() {
            if (fault == NONE) {
                fault = at;
            }
        }
    }

    /** An opening of a square; backDay is NONE while it is open. */
    private static final class Opening {
        final int company;
        final int street;
        final int square;
        final int openedDay;
        final int leaveDays;
        int backDay;

        Opening(int company, int street, int square, int openedDay, int leaveDays) {
            this.company = company;
            this.street = street;
            this.square = square;
            this.openedDay = openedDay;
            this.leaveDays = leaveDays;
            backDay = NONE;
        }

        boolean isOpen() {
            return backDay == NONE;
        }

        boolean isAt(int aStreet, int at) {
            return street == aStreet && square == at;
        }

        int daysOpenOn(int day) {
            int last = isOpen() ? day : Math.min(day, backDay);
            return last - openedDay;
        }
    }

    /** Lots drawn of squares, and what a draw can tell of those that are bad. */
    private static final class Lots {
        private static final int SIDE = MAX_LOTS + 1;
        private static final int WHOLE = 10000;

        /** Ways to choose k of n, at n * SIDE + k; 0 for k above n. */
        final long[] ways;
        final int[] rest;
        final int[] lots;
        int lotCount;

        Lots() {
            rest = new int[MAX_LOTS];
            lots = new int[MAX_LOTS];
            ways = new long[SIDE * SIDE];
            ways[0] = 1;
            for (int n = 1; n < SIDE; n++) {
                ways[n * SIDE] = 1;
                for (int k = 1; k <= n; k++) {
                    ways[n * SIDE + k] = ways[(n - 1) * SIDE + k - 1] + ways[(n - 1) * SIDE + k];
                }
            }
        }

        int drawLots(int all, int n, int z) {
            for (int i = 0; i < all; i++) {
                rest[i] = i;
            }
            int state = z;
            for (int i = 0; i < n && i < all; i++) {
                state = state * 1103515245 + 12345;
                int place = (state >>> 8) % (all - i);
                lots[i] = rest[place];
                System.arraycopy(rest, place + 1, rest, place, all - i - 1 - place);
            }
            lotCount = n;
            return n;
        }

        int lotAt(int i) {
            return i >= 0 && i < lotCount ? lots[i] : BAD;
        }

        int mostBad(int all, int n, int b, int p) {
            for (int bad = all - n + b; bad > b; bad--) {
                if (WHOLE * waysWithFew(all, n, b, bad) >= p * ways[all * SIDE + n]) {
                    return bad;
                }
            }
            // with b bad ones in all never more than b are drawn
            return b;
        }

        private long waysWithFew(int all, int n, int b, int bad) {
            long sum = 0;
            for (int i = 0; i <= b; i++) {
                sum += ways[bad * SIDE + i] * ways[(all - bad) * SIDE + n - i];
            }
            return sum;
        }
    }
}
