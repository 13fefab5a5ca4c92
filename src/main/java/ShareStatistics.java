/**
 * Statistics of incidents: counts, shares within marks as exact fractions, placed values, trends,
 * areas by people, small counts joined for secrecy, and stations' work.
 */
public final class ShareStatistics {
    private static final int LAST_DAY = 9999;
    private static final int LAST_HOUR = 23;
    private static final int KINDS = 5;
    private static final int AREAS = 10;
    private static final int STATIONS = 6;
    private static final int ANY = -1;

    private static final int MOST_ROWS = 200;
    private static final int MOST_SECONDS = 9999;
    private static final int NO_VALUE = -1;
    private static final int FALSE_ALARM = 1;
    private static final int HIDDEN = 2;

    private static final int MOST_DEFINITIONS = 6;
    private static final int HIGHEST_MARK = 20000;
    private static final int NO_MARK = -1;

    private static final int COUNT_ROWS = 0;
    private static final int COUNT_FALSE = 1;
    private static final int COUNT_WITHIN = 2;
    private static final int COUNT_WITHOUT = 3;
    private static final int COUNT_TURN_OUT = 4;
    private static final int COUNTS = 5;

    private static final int HUNDRED = 100;
    private static final int THOUSAND = 1000;
    private static final int MOST_PEOPLE = 1000000;
    private static final int FEWEST_PERIODS = 2;
    private static final int MOST_PERIODS = 6;
    private static final int LONGEST_PERIOD = 1000;
    private static final int FIRST_LEAST = 3;
    private static final int HIGHEST_LEAST = 100;
    private static final int EUCLID_STEPS = 64;

    private final Definitions definitions;
    private final Incidents incidents;
    private final Trend trendCounts;
    private final Secrecy secrecy;
    private final int[] peopleOfArea;
    private int askedFrom;
    private int askedTo;
    private int askedKind;
    private int askedArea;

    public ShareStatistics() {
        definitions = new Definitions();
        incidents = new Incidents();
        trendCounts = new Trend();
        secrecy = new Secrecy();
        peopleOfArea = new int[AREAS];
        askedFrom = 0;
        askedTo = LAST_DAY;
        askedKind = ANY;
        askedArea = ANY;
    }

    public int row(int day, int hour, int kind, int area, int station, int marks)
            throws IllegalArgumentException, IndexOutOfBoundsException, UnsupportedOperationException {
        refuseUnknown(kind, KINDS);
        refuseUnknown(area, AREAS);
        refuseUnknown(station, STATIONS);
        refuseOutside(day, 0, LAST_DAY);
        refuseOutside(hour, 0, LAST_HOUR);
        refuseOutside(marks, 0, FALSE_ALARM + HIDDEN);
        if (incidents.isFull()) {
            throw new UnsupportedOperationException("no room for one more row");
        }
        return incidents.add(day, hour, kind, area, station, marks);
    }

    public void values(int row, int turnOut, int travel)
            throws IllegalArgumentException, IndexOutOfBoundsException {
        refuseUnknown(row, incidents.size());
        refuseOutside(turnOut, NO_VALUE, MOST_SECONDS);
        refuseOutside(travel, NO_VALUE, MOST_SECONDS);
        incidents.setSeconds(row, turnOut, travel);
    }

    public int define(int day, int mark) throws IndexOutOfBoundsException, UnsupportedOperationException {
        refuseOutside(day, 0, LAST_DAY);
        refuseOutside(mark, 0, HIGHEST_MARK);
        if (definitions.isFull()) {
            throw new UnsupportedOperationException("no room for one more definition");
        }
        return definitions.add(day, mark);
    }

    public void ask(int from, int to, int kind, int area)
            throws IllegalArgumentException, IndexOutOfBoundsException {
        if (kind != ANY) {
            refuseUnknown(kind, KINDS);
        }
        if (area != ANY) {
            refuseUnknown(area, AREAS);
        }
        refuseNoSpan(from, to);
        askedFrom = from;
        askedTo = to;
        askedKind = kind;
        askedArea = area;
    }

    public int count(int what) throws IllegalArgumentException {
        refuseUnknown(what, COUNTS);
        return askedTotal(what, askedFrom, askedTo);
    }

    public int hour(int hour) throws IndexOutOfBoundsException {
        refuseOutside(hour, 0, LAST_HOUR);
        return incidents.inHour(hour, askedFrom, askedTo, askedKind, askedArea);
    }

    public int share(int what) throws IllegalArgumentException, ArithmeticException {
        refuseUnknown(what, 2);
        int within = rowsWithin(askedFrom, askedTo);
        int told = rowsNotWithout(askedFrom, askedTo);
        refuseNoShare(told);
        return inLowestTerms(what == 0 ? within : told, within, told);
    }

    public int placed(int p) throws IndexOutOfBoundsException {
        refuseOutside(p, 1, HUNDRED);
        return incidents.sumAtPlace(p, askedFrom, askedTo, askedKind, askedArea);
    }

    public int splits() {
        return definitions.changes(askedFrom, askedTo);
    }

    public int compare(int from, int to) throws IndexOutOfBoundsException, ArithmeticException {
        refuseNoSpan(from, to);
        int told = rowsNotWithout(askedFrom, askedTo);
        int otherTold = rowsNotWithout(from, to);
        refuseNoShare(told);
        refuseNoShare(otherTold);
        return Integer.compare(rowsWithin(askedFrom, askedTo) * otherTold, rowsWithin(from, to) * told);
    }

    public int trend(int from, int days, int periods, int what)
            throws IllegalArgumentException, IndexOutOfBoundsException {
        refuseUnknown(what, 3);
        refuseOutside(periods, FEWEST_PERIODS, MOST_PERIODS);
        refuseOutside(days, 1, LONGEST_PERIOD);
        refuseOutside(from, 0, LAST_DAY + 1 - days * periods);
        trendCounts.start(periods);
        for (int period = 0; period < periods; period++) {
            int first = from + period * days;
            trendCounts.setCount(period, incidents.number(first, first + days - 1, askedKind, askedArea));
        }
        if (what == 0) {
            return trendCounts.sum();
        }
        int upper = trendCounts.ordersNotBelow(trendCounts.sum());
        int lower = trendCounts.orders();
        return inLowestTerms(what == 1 ? upper : lower, upper, lower);
    }

    public void people(int area, int n) throws IllegalArgumentException, IndexOutOfBoundsException {
        refuseUnknown(area, AREAS);
        refuseOutside(n, 0, MOST_PEOPLE);
        peopleOfArea[area] = n;
    }

    public int perThousand(int area) throws IllegalArgumentException, ArithmeticException {
        refuseUnknown(area, AREAS);
        int inhabitants = peopleOfArea[area];
        if (inhabitants <= 0) {
            throw new ArithmeticException("an area without people");
        }
        return THOUSAND * rowsOfArea(area) / inhabitants;
    }

    public int rank(int area) throws IllegalArgumentException {
        refuseUnknown(area, AREAS);
        int own = rowsOfArea(area);
        int place = 1;
        for (int other = 0; other < AREAS; other++) {
            if (rowsOfArea(other) > own) {
                place++;
            }
        }
        return place;
    }

    public void least(int n) throws IndexOutOfBoundsException {
        refuseOutside(n, 1, HIGHEST_LEAST);
        secrecy.setLeast(n);
    }

    public int shown(int area) throws IllegalArgumentException {
        refuseUnknown(area, AREAS);
        secrecy.join(incidents, askedFrom, askedTo);
        return secrecy.rowsShown(area);
    }

    public int joined() {
        secrecy.join(incidents, askedFrom, askedTo);
        return secrecy.rowsTogether();
    }

    public int work(int station, int what) throws IllegalArgumentException {
        refuseUnknown(station, STATIONS);
        refuseUnknown(what, 2);
        return what == 0
                ? incidents.ofStation(station, askedFrom, askedTo)
                : incidents.secondsOfStation(station, askedFrom, askedTo);
    }

    private int askedTotal(int what, int from, int to) {
        return incidents.total(what, definitions, from, to, askedKind, askedArea);
    }

    private int rowsWithin(int from, int to) {
        return askedTotal(COUNT_WITHIN, from, to);
    }

    private int rowsNotWithout(int from, int to) {
        return askedTotal(COUNT_ROWS, from, to) - askedTotal(COUNT_WITHOUT, from, to);
    }

    private int rowsOfArea(int area) {
        return incidents.number(askedFrom, askedTo, askedKind, area);
    }

    private static void refuseUnknown(int number, int howMany) {
        if (number < 0 || number >= howMany) {
            throw new IllegalArgumentException("an unknown number");
        }
    }

    private static void refuseOutside(int number, int lowest, int highest) {
        if (number < lowest || number > highest) {
            throw new IndexOutOfBoundsException("a number outside its range");
        }
    }

    private static void refuseNoSpan(int from, int to) {
        refuseOutside(from, 0, LAST_DAY);
        refuseOutside(to, from, LAST_DAY);
    }

    private static void refuseNoShare(int told) {
        if (told <= 0) {
            throw new ArithmeticException("a share of rows without alone");
        }
    }

    /** One of a fraction's two numbers, divided by what divides both. */
    private static int inLowestTerms(int number, int upper, int lower) {
        int divisor = commonDivisor(upper, lower);
        return divisor > 0 ? number / divisor : number;
    }

    private static int commonDivisor(int a, int b) {
        int greater = a;
        int rest = b;
        for (int step = 0; step < EUCLID_STEPS && rest != 0; step++) {
            int next = greater % rest;
            greater = rest;
            rest = next;
        }
        return greater;
    }

    /** The definitions in the order in which they were told; their days may stand in any order. */
    private static final class Definitions {
        private final int[] days = new int[MOST_DEFINITIONS];
        private final int[] limits = new int[MOST_DEFINITIONS];
        private int size;

        boolean isFull() {
            return size >= MOST_DEFINITIONS;
        }

        int add(int day, int mark) {
            if (!isFull()) {
                days[size] = day;
                limits[size] = mark;
                size++;
            }
            return size;
        }

        int markOn(int day) {
            int mark = NO_MARK;
            int since = 0;
            for (int i = 0; i < size; i++) {
                // Not "above": of one day the definition told last holds.
                if (days[i] <= day && days[i] >= since) {
                    since = days[i];
                    mark = limits[i];
                }
            }
            return mark;
        }

        /** Days behind the first one of a span whose mark is not the day before's. */
        int changes(int from, int to) {
            int changes = 0;
            for (int i = 0; i < size; i++) {
                int day = days[i];
                boolean inside = day > from && day <= to;
                if (inside && isLastOfItsDay(i) && markOn(day) != markOn(day - 1)) {
                    changes++;
                }
            }
            return changes;
        }

        private boolean isLastOfItsDay(int definition) {
            for (int later = definition + 1; later < size; later++) {
                if (days[later] == days[definition]) {
                    return false;
                }
            }
            return true;
        }
    }

    /** The rows, a column for each of their parts. */
    private static final class Incidents {
        private final int[] days = new int[MOST_ROWS];
        private final int[] hours = new int[MOST_ROWS];
        private final int[] kinds = new int[MOST_ROWS];
        private final int[] areas = new int[MOST_ROWS];
        private final int[] stations = new int[MOST_ROWS];
        private final int[] marks = new int[MOST_ROWS];
        private final int[] turnOuts = new int[MOST_ROWS];
        private final int[] travels = new int[MOST_ROWS];
        private final int[] sortedSums = new int[MOST_ROWS];
        private int size;

        int size() {
            return size;
        }

        boolean isFull() {
            return size >= MOST_ROWS;
        }

        int add(int day, int hour, int kind, int area, int station, int marksOfRow) {
            if (isFull()) {
                return size;
            }
            int added = size;
            days[added] = day;
            hours[added] = hour;
            kinds[added] = kind;
            areas[added] = area;
            stations[added] = station;
            marks[added] = marksOfRow;
            turnOuts[added] = NO_VALUE;
            travels[added] = NO_VALUE;
            size++;
            return added;
        }

        void setSeconds(int incident, int turnOut, int travel) {
            if (incident >= 0 && incident < size) {
                turnOuts[incident] = turnOut;
                travels[incident] = travel;
            }
        }

        int number(int from, int to, int kind, int area) {
            int number = 0;
            for (int i = 0; i < size; i++) {
                if (isAsked(i, from, to, kind, area)) {
                    number++;
                }
            }
            return number;
        }

        int total(int what, Definitions definitions, int from, int to, int kind, int area) {
            int total = 0;
            for (int i = 0; i < size; i++) {
                if (isAsked(i, from, to, kind, area)) {
                    total += amount(i, what, definitions.markOn(days[i]));
                }
            }
            return total;
        }

        int inHour(int hour, int from, int to, int kind, int area) {
            int number = 0;
            for (int i = 0; i < size; i++) {
                if (isAsked(i, from, to, kind, area) && hours[i] == hour) {
                    number++;
                }
            }
            return number;
        }

        int sumAtPlace(int percent, int from, int to, int kind, int area) {
            int sums = 0;
            for (int i = 0; i < size; i++) {
                if (isAsked(i, from, to, kind, area) && hasBothValues(i)) {
                    sortIn(turnOuts[i] + travels[i], sums);
                    sums++;
                }
            }
            int place = (percent * sums + HUNDRED - 1) / HUNDRED;
            return place >= 1 && place <= sums ? sortedSums[place - 1] : NO_VALUE;
        }

        int hidden(int from, int to) {
            int number = 0;
            for (int i = 0; i < size; i++) {
                if (isHidden(i) && isInSpan(i, from, to)) {
                    number++;
                }
            }
            return number;
        }

        int ofStation(int station, int from, int to) {
            int number = 0;
            for (int i = 0; i < size; i++) {
                if (isWork(i, station, from, to)) {
                    number++;
                }
            }
            return number;
        }

        int secondsOfStation(int station, int from, int to) {
            int seconds = 0;
            for (int i = 0; i < size; i++) {
                if (isWork(i, station, from, to)) {
                    seconds += secondsOf(turnOuts[i]) + secondsOf(travels[i]);
                }
            }
            return seconds;
        }

        /** What one row adds to a count, with the mark of its day. */
        private int amount(int incident, int what, int mark) {
            switch (what) {
                case COUNT_ROWS:
                    return 1;
                case COUNT_FALSE:
                    return (marks[incident] & FALSE_ALARM) != 0 ? 1 : 0;
                case COUNT_WITHIN:
                    return isWithin(incident, mark) ? 1 : 0;
                case COUNT_WITHOUT:
                    return isWithout(incident, mark) ? 1 : 0;
                case COUNT_TURN_OUT:
                    return secondsOf(turnOuts[incident]);
                default:
                    return 0;
            }
        }

        private boolean isWork(int incident, int station, int from, int to) {
            return stations[incident] == station && isAsked(incident, from, to, ANY, ANY);
        }

        private boolean isAsked(int incident, int from, int to, int kind, int area) {
            return !isHidden(incident)
                    && isInSpan(incident, from, to)
                    && (kind == ANY || kinds[incident] == kind)
                    && (area == ANY || areas[incident] == area);
        }

        private boolean isHidden(int incident) {
            return (marks[incident] & HIDDEN) != 0;
        }

        private boolean isInSpan(int incident, int from, int to) {
            return days[incident] >= from && days[incident] <= to;
        }

        private boolean hasBothValues(int incident) {
            return turnOuts[incident] != NO_VALUE && travels[incident] != NO_VALUE;
        }

        private boolean isWithout(int incident, int mark) {
            return mark == NO_MARK || !hasBothValues(incident);
        }

        private boolean isWithin(int incident, int mark) {
            return !isWithout(incident, mark) && turnOuts[incident] + travels[incident] <= mark;
        }

        private static int secondsOf(int value) {
            return value == NO_VALUE ? 0 : value;
        }

        private void sortIn(int sum, int sums) {
            if (sums < 0 || sums >= MOST_ROWS) {
                return;
            }
            int place = sums;
            while (place > 0 && sortedSums[place - 1] > sum) {
                sortedSums[place] = sortedSums[place - 1];
                place--;
            }
            sortedSums[place] = sum;
        }
    }

    /** The counts of a trend's periods, and how their orders are spread. */
    private static final class Trend {
        private final int[] counts = new int[MOST_PERIODS];
        private int periods;

        void start(int howMany) {
            periods = Math.min(howMany, MOST_PERIODS);
        }

        void setCount(int period, int number) {
            if (period >= 0 && period < periods) {
                counts[period] = number;
            }
        }

        int sum() {
            int sum = 0;
            int earlier = 0;
            for (int period = 0; period < periods; period++) {
                sum += gain(counts, periods, period, earlier);
                earlier |= 1 << period;
            }
            return sum;
        }

        int orders() {
            int orders = 1;
            for (int period = 2; period <= periods; period++) {
                orders *= period;
            }
            return orders;
        }

        int ordersNotBelow(int goal) {
            return ordersBehind(counts, periods, 0, periods, 0, goal);
        }

        /** Ways to go on behind the periods that are taken (a bit each) and end not below the goal. */
        private static int ordersBehind(int[] counts, int periods, int taken, int open, int sum, int goal) {
            if (open <= 0) {
                return sum >= goal ? 1 : 0;
            }
            int orders = 0;
            for (int next = 0; next < periods; next++) {
                if (!isTaken(next, taken)) {
                    int sumThen = sum + gain(counts, periods, next, taken);
                    orders += ordersBehind(counts, periods, taken | 1 << next, open - 1, sumThen, goal);
                }
            }
            return orders;
        }

        /** What a period adds to the sum when it comes behind all that are taken. */
        private static int gain(int[] counts, int periods, int later, int taken) {
            int gain = 0;
            for (int earlier = 0; earlier < periods; earlier++) {
                if (isTaken(earlier, taken)) {
                    gain += Integer.compare(counts[later], counts[earlier]);
                }
            }
            return gain;
        }

        private static boolean isTaken(int period, int taken) {
            return (taken >> period & 1) != 0;
        }
    }

    /** Which areas of a span are joined; reckoned anew for each answer, as rows may have come since. */
    private static final class Secrecy {
        private final int[] rowsOfArea = new int[AREAS];
        private final boolean[] isJoined = new boolean[AREAS];
        private int lowestShown = FIRST_LEAST;
        private int together;

        void setLeast(int n) {
            lowestShown = n;
        }

        void join(Incidents incidents, int from, int to) {
            together = 0;
            for (int area = 0; area < AREAS; area++) {
                int number = incidents.number(from, to, ANY, area);
                rowsOfArea[area] = number;
                isJoined[area] = number >= 1 && number < lowestShown;
                together += isJoined[area] ? number : 0;
            }
            // Hidden rows alone join nothing.
            if (together > 0) {
                together += incidents.hidden(from, to);
                joinMore();
            }
        }

        int rowsShown(int area) {
            if (area < 0 || area >= AREAS || isJoined[area]) {
                return -1;
            }
            return rowsOfArea[area];
        }

        int rowsTogether() {
            return together;
        }

        private void joinMore() {
            for (int round = 0; round < AREAS && together < lowestShown; round++) {
                int area = areaOfFewest();
                if (area < 0) {
                    return;
                }
                isJoined[area] = true;
                together += rowsOfArea[area];
            }
        }

        /** The shown area with the fewest rows but not none, the lowest of the same; -1 if none is left. */
        private int areaOfFewest() {
            int found = -1;
            for (int area = 0; area < AREAS; area++) {
                boolean canJoin = !isJoined[area] && rowsOfArea[area] > 0;
                if (canJoin && (found < 0 || rowsOfArea[area] < rowsOfArea[found])) {
                    found = area;
                }
            }
            return found;
        }
    }
}
