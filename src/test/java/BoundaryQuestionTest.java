/** Promises 6 to 11 and 19, what a question answers: each sentence that names a boundary, as a test of its own. */
public final class BoundaryQuestionTest {
    private static final Check CHECK = new Check();

    public static void main(String[] args) {
        countOfNothing();
        countAheadOfAQuestion();
        countsAtTheirHighest();
        turnOutOfRowsThatHaveSome();
        countUnknown();
        hourEdges();
        hourRange();
        shareInLowestTerms();
        shareUnknown();
        shareOfRowsWithoutAlone();
        placedWithoutOne();
        placedRoundedUp();
        placedOfTheSame();
        placedRange();
        splitsFromTheSecondDayOn();
        splitsBetweenNoneAndOne();
        splitsOfTheSameMark();
        splitsAtTheirMost();
        compareExactly();
        compareWithItsKindAndArea();
        compareRange();
        compareNotTold();
        workOfNothing();
        workAtItsHighest();
        workOfThoseThatThereAre();
        workOfTheSpanAlone();
        workUnknown();
        CHECK.end("BoundaryQuestionTest");
    }

    /** So many rows of a day within a mark of 10, and so many above it. */
    private static void tellShare(ShareStatistics x, int day, int within, int above) {
        for (int i = 0; i < within + above; i++) {
            Sample.tellRow(x, day, 0, 0, i < within ? 10 : 11, 0);
        }
    }

    /** Promise 6: of a question without rows. */
    private static void countOfNothing() {
        ShareStatistics x = new ShareStatistics();
        x.define(0, 10);
        tellShare(x, 5, 1, 1);
        int[][] questions = {{6, 9999, -1, -1}, {0, 4, -1, -1}, {0, 9999, 1, -1}, {0, 9999, -1, 1}};
        for (int[] q : questions) {
            x.ask(q[0], q[1], q[2], q[3]);
            for (int what = 0; what < 5; what++) {
                CHECK.equal("count(" + what + ") of nothing", x.count(what), 0);
            }
        }
    }

    /** Promise 6: "(Ahead of a question: the days 0 .. 9,999, any kind and area.)" */
    private static void countAheadOfAQuestion() {
        ShareStatistics x = new ShareStatistics();
        x.define(0, 10);
        x.define(1, 11);
        x.define(9999, 12);
        for (int day : new int[] {0, 9999}) {
            for (int kind = 0; kind < 5; kind += 4) {
                for (int area = 0; area < 10; area += 9) {
                    x.values(x.row(day, 23, kind, area, 5, 1), day == 0 ? 11 : 12, 0);
                }
            }
        }
        int[] due = {8, 8, 4, 0, 92};
        for (int what = 0; what < 5; what++) {
            CHECK.equal("ahead of a question: count(" + what + ")", x.count(what), due[what]);
        }
        CHECK.equal("ahead of a question: hour", x.hour(23), 8);
        CHECK.equal("ahead of a question: share", x.share(1), 2);
        CHECK.equal("ahead of a question: placed", x.placed(51), 12);
        CHECK.equal("ahead of a question: splits", x.splits(), 2);
        CHECK.equal("ahead of a question: rank", x.rank(5), 3);
        CHECK.equal("ahead of a question: shown", x.shown(9), 4);
        CHECK.equal("ahead of a question: work", x.work(5, 1), 92);
    }

    /** Promise 6: all 200 rows, each with the highest turn-out. */
    private static void countsAtTheirHighest() {
        ShareStatistics x = new ShareStatistics();
        x.define(9999, 20000);
        for (int i = 0; i < 200; i++) {
            x.values(x.row(9999, 23, 4, 9, 5, 1), 9999, 9999);
        }
        int[] due = {200, 200, 200, 0, 1999800};
        for (int what = 0; what < 5; what++) {
            CHECK.equal("highest count(" + what + ")", x.count(what), due[what]);
        }
    }

    /** Promise 6: "4 the sum of turn-out seconds of rows that have some". */
    private static void turnOutOfRowsThatHaveSome() {
        ShareStatistics x = new ShareStatistics();
        Sample.tellRow(x, 5, 0, 0, -1, 7);
        Sample.tellRow(x, 5, 0, 0, -1, -1);
        CHECK.equal("turn-out of rows without one", x.count(4), 0);
        Sample.tellRow(x, 5, 0, 0, 5, -1);
        Sample.tellRow(x, 5, 0, 0, 0, 3);
        CHECK.equal("turn-out of rows with and without one", x.count(4), 5);
    }

    /** Promise 6: "Unknown: no such what." */
    private static void countUnknown() {
        for (int n : Sample.outside(0, 4)) {
            CHECK.refusedIn(Sample::some, "count(" + n + ")", Sample.UNKNOWN, x -> x.count(n));
        }
    }

    /** Promise 7: "Its rows in an hour", the first, the last, one between. */
    private static void hourEdges() {
        ShareStatistics x = new ShareStatistics();
        int[] hours = {0, 0, 1, 22, 23, 23, 23};
        for (int hour : hours) {
            x.row(5, hour, 1, 1, 0, 0);
        }
        int[] due = new int[24];
        due[0] = 2;
        due[1] = 1;
        due[22] = 1;
        due[23] = 3;
        for (int hour = 0; hour < 24; hour++) {
            CHECK.equal("hour(" + hour + ")", x.hour(hour), due[hour]);
        }
        x.ask(6, 6, -1, -1);
        CHECK.equal("hour(23) of another day", x.hour(23), 0);
        x.ask(5, 5, 0, -1);
        CHECK.equal("hour(23) of another kind", x.hour(23), 0);
        x.ask(5, 5, -1, 0);
        CHECK.equal("hour(23) of another area", x.hour(23), 0);
    }

    /** Promise 7: "Range: the hour." */
    private static void hourRange() {
        for (int n : Sample.outside(0, 23)) {
            CHECK.refusedIn(Sample::some, "hour(" + n + ")", Sample.RANGE, x -> x.hour(n));
        }
    }

    /** Promise 8: "Its share in lowest terms". */
    private static void shareInLowestTerms() {
        int[][] due = {
            {0, 1, 0, 1}, {1, 0, 1, 1}, {0, 200, 0, 1}, {200, 0, 1, 1}, {1, 199, 1, 200}, {199, 1, 199, 200},
            {100, 100, 1, 2}, {128, 64, 2, 3}, {55, 34, 55, 89}, {144, 55, 144, 199}, {120, 80, 3, 5}, {7, 0, 1, 1},
        };
        for (int[] d : due) {
            ShareStatistics x = new ShareStatistics();
            x.define(0, 10);
            tellShare(x, 5, d[0], d[1]);
            String which = d[0] + " of " + (d[0] + d[1]);
            CHECK.equal("upper: " + which, x.share(0), d[2]);
            CHECK.equal("lower: " + which, x.share(1), d[3]);
        }
    }

    /** Promise 8: "Unknown: no such what". */
    private static void shareUnknown() {
        for (int n : Sample.outside(0, 1)) {
            CHECK.refusedIn(Sample::some, "share(" + n + ")", Sample.UNKNOWN, x -> x.share(n));
        }
    }

    /** Promise 8: "ArithmeticException: there are only rows without." */
    private static void shareOfRowsWithoutAlone() {
        for (int what = 0; what < 2; what++) {
            int w = what;
            CHECK.refusedIn(ShareStatistics::new, "share(" + w + ") of no rows", Sample.NOT_TOLD, x -> x.share(w));
            CHECK.refusedIn(Sample::withoutShare, "share(" + w + ") of rows without", Sample.NOT_TOLD,
                    x -> x.share(w));
        }
        ShareStatistics x = Sample.withoutShare();
        Sample.tellRow(x, 20, 1, 1, 100, 1);
        CHECK.equal("one that is not without: upper", x.share(0), 0);
        CHECK.equal("one that is not without: lower", x.share(1), 1);
        x.ask(0, 19, -1, -1);
        CHECK.refused("but not in this span", Sample.NOT_TOLD, () -> x.share(0));
        x.ask(0, 9999, 2, -1);
        CHECK.refused("but not of this kind", Sample.NOT_TOLD, () -> x.share(0));
        x.ask(0, 9999, -1, 2);
        CHECK.refused("but not of this area", Sample.NOT_TOLD, () -> x.share(1));
    }

    /** Promise 9: "-1 without one." */
    private static void placedWithoutOne() {
        ShareStatistics x = new ShareStatistics();
        Sample.tellRow(x, 5, 0, 0, 1, -1);
        Sample.tellRow(x, 5, 0, 0, -1, 1);
        CHECK.equal("placed(1) of rows without both", x.placed(1), -1);
        CHECK.equal("placed(100) of rows without both", x.placed(100), -1);
        Sample.tellRow(x, 5, 0, 0, 0, 0);
        CHECK.equal("placed(1) of a sum of 0", x.placed(1), 0);
        x.ask(6, 6, -1, -1);
        CHECK.equal("placed(1) of another day", x.placed(1), -1);
    }

    private static int placeOf(int p, int number) {
        int place = 1;
        while (100 * place < p * number) {
            place++;
        }
        return place;
    }

    /** Terms: "the one at the place p (1 .. 100) times their number over 100, rounded up (the first place is 1)". */
    private static void placedRoundedUp() {
        for (int number : new int[] {1, 2, 3, 7, 50, 99, 100, 101, 199, 200}) {
            ShareStatistics x = new ShareStatistics();
            for (int i = number; i > 0; i--) {
                Sample.tellRow(x, 5, 0, 0, i, i);
            }
            for (int p = 1; p <= 100; p++) {
                CHECK.equal("placed(" + p + ") of " + number, x.placed(p), 2 * placeOf(p, number));
            }
        }
    }

    /** Terms: "of all sums [..] in order": each that is the same has a place of its own. */
    private static void placedOfTheSame() {
        ShareStatistics x = new ShareStatistics();
        int[] sums = {8, 3, 8, 19998, 3, 3, 8, 0, 8, 8};
        for (int sum : sums) {
            Sample.tellRow(x, 5, 0, 0, sum / 2, sum - sum / 2);
        }
        int[] due = {0, 3, 3, 3, 8, 8, 8, 8, 8, 19998};
        for (int i = 0; i < 10; i++) {
            CHECK.equal("place " + (i + 1) + " of ten", x.placed(10 * i + 10), due[i]);
            CHECK.equal("place " + (i + 1) + " of ten, rounded up", x.placed(10 * i + 1), due[i]);
        }
    }

    /** Promise 9: "Range: p." */
    private static void placedRange() {
        for (int n : Sample.outside(1, 100)) {
            CHECK.refusedIn(Sample::some, "placed(" + n + ")", Sample.RANGE, x -> x.placed(n));
            CHECK.refusedIn(ShareStatistics::new, "new: placed(" + n + ")", Sample.RANGE, x -> x.placed(n));
        }
    }

    private static void splitsAre(ShareStatistics x, int from, int to, int due) {
        x.ask(from, to, -1, -1);
        CHECK.equal("splits of " + from + " .. " + to, x.splits(), due);
    }

    /** Promise 10: "from the second one of the question's span on". */
    private static void splitsFromTheSecondDayOn() {
        ShareStatistics x = new ShareStatistics();
        x.define(0, 10);
        x.define(100, 20);
        splitsAre(x, 100, 100, 0);
        splitsAre(x, 99, 100, 1);
        splitsAre(x, 99, 99, 0);
        splitsAre(x, 0, 99, 0);
        splitsAre(x, 0, 100, 1);
        splitsAre(x, 100, 9999, 0);
        splitsAre(x, 101, 9999, 0);
        x.define(9999, 30);
        splitsAre(x, 9998, 9999, 1);
        splitsAre(x, 9999, 9999, 0);
        splitsAre(x, 0, 9999, 2);
        x.ask(0, 9999, 3, 3);
        CHECK.equal("splits without a row", x.splits(), 2);
    }

    /** Promise 10: "have another mark (or none, or one) than the day before". */
    private static void splitsBetweenNoneAndOne() {
        ShareStatistics x = new ShareStatistics();
        splitsAre(x, 0, 9999, 0);
        x.define(50, 0);
        splitsAre(x, 0, 9999, 1);
        splitsAre(x, 49, 50, 1);
        splitsAre(x, 50, 51, 0);
        x.define(0, 0);
        splitsAre(x, 0, 9999, 0);
        ShareStatistics first = new ShareStatistics();
        first.define(1, 10);
        splitsAre(first, 0, 1, 1);
        splitsAre(first, 0, 0, 0);
    }

    /** Promise 10: "another mark": the same one told anew is none. */
    private static void splitsOfTheSameMark() {
        ShareStatistics x = new ShareStatistics();
        x.define(0, 10);
        x.define(100, 10);
        splitsAre(x, 0, 9999, 0);
        x.define(100, 20);
        splitsAre(x, 0, 9999, 1);
        x.define(200, 20);
        splitsAre(x, 0, 9999, 1);
        x.define(100, 30);
        splitsAre(x, 0, 9999, 2);
        x.define(200, 30);
        splitsAre(x, 0, 9999, 1);
    }

    /** Promise 10, all six definitions: a day has one split, however many definitions it has. */
    private static void splitsAtTheirMost() {
        ShareStatistics x = new ShareStatistics();
        for (int i = 6; i > 0; i--) {
            x.define(i, i % 2);
        }
        splitsAre(x, 0, 9999, 6);
        splitsAre(x, 1, 6, 5);
        splitsAre(x, 0, 5, 5);
        ShareStatistics one = new ShareStatistics();
        for (int i = 0; i < 6; i++) {
            one.define(7, i);
        }
        splitsAre(one, 0, 9999, 1);
    }

    /** Promise 11: "greater (1), less (-1) or the same (0)". */
    private static void compareExactly() {
        int[][] due = {
            {98, 1, 100, 1, -1}, {100, 1, 98, 1, 1}, {1, 2, 33, 66, 0}, {1, 0, 199, 0, 0}, {0, 1, 0, 199, 0},
            {0, 1, 1, 198, -1}, {1, 0, 198, 1, 1}, {1, 0, 0, 1, 1}, {0, 1, 1, 0, -1}, {50, 50, 49, 51, 1},
        };
        for (int[] d : due) {
            ShareStatistics x = new ShareStatistics();
            x.define(0, 10);
            tellShare(x, 5, d[0], d[1]);
            tellShare(x, 6, d[2], d[3]);
            x.ask(5, 5, -1, -1);
            String which = d[0] + ":" + d[1] + " and " + d[2] + ":" + d[3];
            CHECK.equal(which, x.compare(6, 6), d[4]);
            CHECK.equal(which + ", its own span", x.compare(5, 5), 0);
            CHECK.equal(which + ", its own span in a longer one", x.compare(0, 5), 0);
            CHECK.equal(which + ", up to the last day", x.compare(6, 9999), d[4]);
        }
    }

    /** Promise 11: "that of another span with its kind and area". */
    private static void compareWithItsKindAndArea() {
        ShareStatistics x = new ShareStatistics();
        x.define(0, 10);
        Sample.tellRow(x, 5, 1, 1, 10, 0);
        Sample.tellRow(x, 5, 1, 1, 11, 0);
        Sample.tellRow(x, 6, 1, 1, 10, 0);
        Sample.tellRow(x, 6, 2, 1, 11, 0);
        Sample.tellRow(x, 6, 1, 2, 11, 0);
        Sample.tellRow(x, 6, 2, 2, 11, 0);
        int[][] due = {{1, 1, -1}, {1, -1, 0}, {-1, 1, 0}, {-1, -1, 1}};
        for (int[] d : due) {
            x.ask(5, 5, d[0], d[1]);
            CHECK.equal("compare of kind " + d[0] + ", area " + d[1], x.compare(6, 6), d[2]);
        }
    }

    /** Promise 11: "Range: the days, the second below the first". */
    private static void compareRange() {
        for (int n : Sample.outside(0, 9999)) {
            CHECK.refusedIn(Sample::some, "compare(" + n + ", 9999)", Sample.RANGE, x -> x.compare(n, 9999));
            CHECK.refusedIn(Sample::some, "compare(0, " + n + ")", Sample.RANGE, x -> x.compare(0, n));
            CHECK.refusedIn(Sample::some, "compare(" + n + ", " + n + ")", Sample.RANGE, x -> x.compare(n, n));
        }
        int[][] below = {{1, 0}, {21, 20}, {9999, 9998}, {9999, 0}};
        for (int[] b : below) {
            CHECK.refusedIn(Sample::some, "compare(" + b[0] + ", " + b[1] + ")", Sample.RANGE,
                    x -> x.compare(b[0], b[1]));
        }
    }

    private static ShareStatistics askedOf(int day) {
        ShareStatistics x = new ShareStatistics();
        x.define(5, 10);
        tellShare(x, 4, 1, 0);
        tellShare(x, 5, 1, 1);
        Sample.tellRow(x, 6, 0, 0, 5, -1);
        x.ask(day, day, -1, -1);
        return x;
    }

    /** Promise 11: "ArithmeticException: one of both can't be told." */
    private static void compareNotTold() {
        int[] untold = {0, 4, 6, 9999};
        for (int day : untold) {
            CHECK.refusedIn(() -> askedOf(5), "the other can't be told: " + day, Sample.NOT_TOLD,
                    x -> x.compare(day, day));
            CHECK.refusedIn(() -> askedOf(day), "the question can't be told: " + day, Sample.NOT_TOLD,
                    x -> x.compare(5, 5));
            CHECK.refusedIn(() -> askedOf(day), "both can't be told: " + day, Sample.NOT_TOLD,
                    x -> x.compare(day, day));
        }
        CHECK.equal("both can be told", askedOf(5).compare(0, 9999), 0);
    }

    /** Promise 19: a station without rows. */
    private static void workOfNothing() {
        ShareStatistics x = new ShareStatistics();
        x.values(x.row(5, 0, 0, 0, 3, 0), 9, 9);
        for (int station = 0; station < 6; station++) {
            CHECK.equal("rows of station " + station, x.work(station, 0), station == 3 ? 1 : 0);
            CHECK.equal("seconds of station " + station, x.work(station, 1), station == 3 ? 18 : 0);
        }
        x.ask(6, 6, -1, -1);
        CHECK.equal("rows of another day", x.work(3, 0), 0);
        CHECK.equal("seconds of another day", x.work(3, 1), 0);
    }

    /** Promise 19: all 200 rows of one station, with the highest values. */
    private static void workAtItsHighest() {
        ShareStatistics x = new ShareStatistics();
        for (int i = 0; i < 200; i++) {
            x.values(x.row(i, 0, 0, 0, 5, 0), 9999, 9999);
        }
        CHECK.equal("highest work: rows", x.work(5, 0), 200);
        CHECK.equal("highest work: seconds", x.work(5, 1), 3999600);
    }

    /** Promise 19: "seconds of both values (those that there are)". */
    private static void workOfThoseThatThereAre() {
        int[][] due = {{-1, -1, 0}, {-1, 5, 5}, {5, -1, 5}, {0, 0, 0}, {-1, 9999, 9999}, {9999, 1, 10000}};
        for (int[] d : due) {
            ShareStatistics x = new ShareStatistics();
            Sample.tellRow(x, 5, 0, 0, d[0], d[1]);
            CHECK.equal("seconds of " + d[0] + " and " + d[1], x.work(0, 1), d[2]);
            CHECK.equal("rows of " + d[0] + " and " + d[1], x.work(0, 0), 1);
        }
    }

    /** Promise 19: "in the question's span". */
    private static void workOfTheSpanAlone() {
        ShareStatistics x = new ShareStatistics();
        for (int day = 9; day <= 12; day++) {
            x.values(x.row(day, 0, 1, 1, 2, 0), day, 100);
        }
        x.ask(10, 11, -1, -1);
        CHECK.equal("rows of the span", x.work(2, 0), 2);
        CHECK.equal("seconds of the span", x.work(2, 1), 221);
        x.ask(10, 11, 3, 3);
        CHECK.equal("rows of the span, any kind and area", x.work(2, 0), 2);
        CHECK.equal("seconds of the span, any kind and area", x.work(2, 1), 221);
    }

    /** Promise 19: "Unknown: no such station or what." */
    private static void workUnknown() {
        for (int n : Sample.outside(0, 5)) {
            CHECK.refusedIn(Sample::some, "work(" + n + ", 0)", Sample.UNKNOWN, x -> x.work(n, 0));
        }
        for (int n : Sample.outside(0, 1)) {
            CHECK.refusedIn(Sample::some, "work(0, " + n + ")", Sample.UNKNOWN, x -> x.work(0, n));
        }
    }
}
