/** Promise 12, a trend: each sentence that names a boundary, as a test of its own. */
public final class BoundaryTrendTest {
    private static final Check CHECK = new Check();
    /** How many of the 720 orders of six counts have 0, 1, .. 15 pairs that fall. */
    private static final int[] FALLING = {1, 5, 14, 29, 49, 71, 90, 101, 101, 90, 71, 49, 29, 14, 5, 1};

    public static void main(String[] args) {
        periodsFromFirstToLast();
        periodsEnd();
        longestUpToTheLastDay();
        tailOfEachSum();
        tailOfEqualCounts();
        tailOfFour();
        ofTheKindAndAreaAlone();
        unknown();
        rangeOfPeriods();
        rangeOfDays();
        beyondTheLastDay();
        CHECK.end("BoundaryTrendTest");
    }

    private static ShareStatistics of(int... counts) {
        ShareStatistics x = new ShareStatistics();
        for (int day = 0; day < counts.length; day++) {
            Sample.tellMany(x, day, 0, counts[day]);
        }
        return x;
    }

    private static void due(String which, ShareStatistics x, int periods, int sum, int upper, int lower) {
        CHECK.equal(which + ": sum", x.trend(0, 1, periods, 0), sum);
        CHECK.equal(which + ": tail's upper", x.trend(0, 1, periods, 1), upper);
        CHECK.equal(which + ": tail's lower", x.trend(0, 1, periods, 2), lower);
    }

    /** Terms: "A TREND of n periods (2 .. 6)": all rising, all falling. */
    private static void periodsFromFirstToLast() {
        ShareStatistics rising = of(0, 1, 2, 3, 4, 5);
        ShareStatistics falling = of(5, 4, 3, 2, 1, 0);
        int orders = 1;
        for (int n = 2; n <= 6; n++) {
            orders *= n;
            due(n + " rising", rising, n, n * (n - 1) / 2, 1, orders);
            due(n + " falling", falling, n, -n * (n - 1) / 2, 1, 1);
        }
    }

    /** Terms: "of so many days (1 .. 1,000), from a day on": each period has its first and last day alone. */
    private static void periodsEnd() {
        for (int days : new int[] {1, 2, 999, 1000}) {
            ShareStatistics x = new ShareStatistics();
            int from = 7;
            x.row(from - 1, 0, 0, 0, 0, 0);
            x.row(from + 2 * days, 0, 0, 0, 0, 0);
            CHECK.equal(days + " days: the days about are not in", x.trend(from, days, 2, 0), 0);
            x.row(from + days - 1, 0, 0, 0, 0, 0);
            CHECK.equal(days + " days: the first period's last day", x.trend(from, days, 2, 0), -1);
            x.row(from + days, 0, 0, 0, 0, 0);
            CHECK.equal(days + " days: the second period's first day", x.trend(from, days, 2, 0), 0);
            x.row(from + 2 * days - 1, 0, 0, 0, 0, 0);
            CHECK.equal(days + " days: the second period's last day", x.trend(from, days, 2, 0), 1);
            x.row(from, 0, 0, 0, 0, 0);
            CHECK.equal(days + " days: the first period's first day", x.trend(from, days, 2, 0), 0);
        }
    }

    /** Terms: "(all within 0 .. 9,999)": the last day itself is in, and so is the first. */
    private static void longestUpToTheLastDay() {
        for (int n = 2; n <= 6; n++) {
            for (int days : new int[] {1, 1000}) {
                ShareStatistics last = new ShareStatistics();
                last.row(9999, 0, 0, 0, 0, 0);
                String which = n + " periods of " + days;
                CHECK.equal(which + " up to 9999", last.trend(10000 - n * days, days, n, 0), n - 1);
                CHECK.equal(which + " up to 9998", last.trend(9999 - n * days, days, n, 0), 0);
                ShareStatistics first = new ShareStatistics();
                first.row(0, 0, 0, 0, 0, 0);
                CHECK.equal(which + " from 0 on", first.trend(0, days, n, 0), 1 - n);
                CHECK.equal(which + " from 1 on", first.trend(1, days, n, 0), 0);
            }
        }
    }

    /** Six counts that are not the same, of which so many pairs fall. */
    private static int[] withFalling(int pairs) {
        int[] counts = new int[6];
        boolean[] used = new boolean[6];
        int left = pairs;
        for (int i = 0; i < 6; i++) {
            int ahead = Math.min(left, 5 - i);
            left -= ahead;
            int value = -1;
            for (int skipped = -1; skipped < ahead;) {
                value++;
                skipped += used[value] ? 0 : 1;
            }
            used[value] = true;
            counts[i] = value;
        }
        return counts;
    }

    private static int greatestDivisor(int a, int b) {
        int divisor = Math.min(a, b);
        while (a % divisor != 0 || b % divisor != 0) {
            divisor--;
        }
        return divisor;
    }

    /** Terms: "Its TAIL is how many of the n! orders [..] have a sum not below it, over n!"; "(lowest terms)". */
    private static void tailOfEachSum() {
        int notBelow = 0;
        for (int pairs = 0; pairs <= 15; pairs++) {
            notBelow += FALLING[pairs];
            int divisor = greatestDivisor(notBelow, 720);
            due(pairs + " pairs fall", of(withFalling(pairs)), 6, 15 - 2 * pairs, notBelow / divisor, 720 / divisor);
        }
    }

    /** Terms: "(taken as n things, also when some are equal)". */
    private static void tailOfEqualCounts() {
        for (int n = 2; n <= 6; n++) {
            due(n + " without rows", new ShareStatistics(), n, 0, 1, 1);
            due(n + " of four rows each", of(4, 4, 4, 4, 4, 4), n, 0, 1, 1);
            ShareStatistics lastGreater = new ShareStatistics();
            lastGreater.row(n - 1, 0, 0, 0, 0, 0);
            due(n + ", the last is greater", lastGreater, n, n - 1, 1, n);
            ShareStatistics firstGreater = of(1);
            due(n + ", the first is greater", firstGreater, n, 1 - n, 1, 1);
        }
        due("two pairs of equals", of(0, 0, 3, 3), 4, 4, 1, 6);
        due("two pairs of equals, mixed", of(0, 3, 3, 0), 4, 0, 2, 3);
        due("two pairs of equals, falling", of(3, 3, 0, 0), 4, -4, 1, 1);
        due("three pairs of equals", of(0, 0, 1, 1, 2, 2), 6, 12, 1, 90);
        due("twice three equals", of(0, 0, 0, 1, 1, 1), 6, 9, 1, 20);
    }

    /** Terms: "1 when the later count is greater, -1 when it is less": by how much is all one. */
    private static void tailOfFour() {
        due("far apart", of(0, 1, 2, 190), 4, 6, 1, 24);
        due("far apart, the first two turned", of(1, 0, 2, 190), 4, 4, 1, 6);
        due("far apart, the last first", of(190, 0, 1, 2), 4, 0, 5, 8);
        due("far apart, twice turned", of(1, 0, 190, 2), 4, 2, 3, 8);
        due("far apart, nearly all falling", of(190, 2, 0, 1), 4, -4, 23, 24);
    }

    /** Promise 12: "A trend of the question's kind and area": not of its span. */
    private static void ofTheKindAndAreaAlone() {
        ShareStatistics x = new ShareStatistics();
        x.row(0, 0, 1, 1, 0, 0);
        x.row(0, 0, 2, 1, 0, 0);
        x.row(0, 0, 2, 1, 0, 0);
        x.row(1, 0, 1, 1, 0, 1);
        x.row(1, 0, 1, 1, 0, 0);
        x.row(1, 0, 1, 2, 0, 0);
        x.row(0, 0, 1, 1, 0, 2);
        x.row(0, 0, 1, 1, 0, 3);
        int[][] asked = {{-1, -1, 0}, {1, -1, 1}, {2, -1, -1}, {-1, 1, -1}, {-1, 2, 1}, {1, 1, 1}, {2, 2, 0}, {0, 0, 0}};
        for (int[] a : asked) {
            x.ask(0, 0, a[0], a[1]);
            CHECK.equal("kind " + a[0] + ", area " + a[1] + ", days 0 .. 0", x.trend(0, 1, 2, 0), a[2]);
            x.ask(500, 9999, a[0], a[1]);
            CHECK.equal("kind " + a[0] + ", area " + a[1] + ", days 500 ..", x.trend(0, 1, 2, 0), a[2]);
        }
    }

    /** Promise 12: "Unknown: no such what". */
    private static void unknown() {
        for (int n : Sample.outside(0, 2)) {
            CHECK.refusedIn(Sample::some, "trend: what " + n, Sample.UNKNOWN, x -> x.trend(0, 10, 4, n));
        }
    }

    /** Promise 12: "range: periods". */
    private static void rangeOfPeriods() {
        for (int n : Sample.outside(2, 6)) {
            for (int what = 0; what < 3; what++) {
                int w = what;
                CHECK.refusedIn(Sample::some, "trend: " + n + " periods", Sample.RANGE, x -> x.trend(0, 1, n, w));
            }
            // So many times a power of two wraps to a small number.
            CHECK.refusedIn(Sample::some, "trend: " + n + " periods of 512", Sample.RANGE,
                    x -> x.trend(0, 512, n, 0));
        }
        CHECK.refusedIn(Sample::some, "trend: no periods", Sample.RANGE, x -> x.trend(0, 1, 0, 0));
    }

    /** Promise 12: "range: [..] days". */
    private static void rangeOfDays() {
        for (int n : Sample.outside(1, 1000)) {
            for (int what = 0; what < 3; what++) {
                int w = what;
                CHECK.refusedIn(Sample::some, "trend of " + n + " days", Sample.RANGE, x -> x.trend(5000, n, 2, w));
            }
            CHECK.refusedIn(Sample::some, "trend of four periods of " + n, Sample.RANGE,
                    x -> x.trend(0, n, 4, 0));
        }
    }

    /** Promise 12: "range: [..] or beyond 9,999." */
    private static void beyondTheLastDay() {
        for (int n = 2; n <= 6; n++) {
            for (int days : new int[] {1, 7, 1000}) {
                int periods = n;
                int tooLate = 10001 - n * days;
                String which = n + " periods of " + days;
                CHECK.refusedIn(Sample::some, which + " up to 10000", Sample.RANGE,
                        x -> x.trend(tooLate, days, periods, 0));
                for (int from : Sample.outside(0, 9999)) {
                    CHECK.refusedIn(Sample::some, which + " from " + from, Sample.RANGE,
                            x -> x.trend(from, days, periods, 1));
                }
            }
        }
        CHECK.refusedIn(Sample::some, "trend from 9999 on", Sample.RANGE, x -> x.trend(9999, 1, 2, 2));
    }
}
