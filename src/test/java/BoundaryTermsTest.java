/** The document's section "Terms": each sentence that names a boundary, as a test of its own. */
public final class BoundaryTermsTest {
    private static final Check CHECK = new Check();

    public static void main(String[] args) {
        unknownAheadOfRangeAndRoomInRow();
        unknownAheadOfRange();
        rangeAheadOfRoom();
        allElseAheadOfArithmetic();
        askingChangesNothing();
        daysHoursKindsAreasStations();
        valuesAreOrAreNot();
        spansHaveBothTheirDays();
        eachOrAny();
        hiddenRowsCountNowhere();
        hiddenRowsAloneAreNothing();
        definitionsHoldUntilTheNext();
        definitionsToldInAnyOrder();
        ofOneDayTheOneToldLast();
        notAboveTheMark();
        rowsWithout();
        upTo512Calls();
        CHECK.end("BoundaryTermsTest");
    }

    private static void rowOf(ShareStatistics x, int[] a) {
        x.row(a[0], a[1], a[2], a[3], a[4], a[5]);
    }

    /** "Refusals, in this order: an unknown number [..]; a number outside its range [..]; no room". */
    private static void unknownAheadOfRangeAndRoomInRow() {
        int[] highest = {9999, 23, 4, 9, 5, 3};
        int[] unknown = {2, 3, 4};
        int[] ranged = {0, 1, 5};
        for (int i = 0; i < 3; i++) {
            int u = unknown[i];
            for (int r : ranged) {
                int[] both = {20, 5, 1, 1, 1, 0};
                both[u] = highest[u] + 1;
                both[r] = highest[r] + 1;
                CHECK.refusedIn(Sample::some, "row: " + u + " unknown, " + r + " outside", Sample.UNKNOWN,
                        x -> rowOf(x, both));
                CHECK.refusedIn(Sample::fullOfRows, "row: " + u + " unknown, " + r + " outside, no room",
                        Sample.UNKNOWN, x -> rowOf(x, both));
            }
            int[] unknownAlone = {20, 5, 1, 1, 1, 0};
            unknownAlone[u] = -1;
            CHECK.refusedIn(Sample::fullOfRows, "row: " + u + " unknown, no room", Sample.UNKNOWN,
                    x -> rowOf(x, unknownAlone));
            int r = ranged[i];
            int[] outsideAlone = {20, 5, 1, 1, 1, 0};
            outsideAlone[r] = -1;
            CHECK.refusedIn(Sample::fullOfRows, "row: " + r + " outside, no room", Sample.RANGE,
                    x -> rowOf(x, outsideAlone));
        }
    }

    /** "Refusals, in this order: an unknown number: IllegalArgumentException; a number outside its range". */
    private static void unknownAheadOfRange() {
        CHECK.refusedIn(Sample::some, "values(50, -2, 0)", Sample.UNKNOWN, x -> x.values(50, -2, 0));
        CHECK.refusedIn(Sample::some, "values(-1, 0, 10000)", Sample.UNKNOWN, x -> x.values(-1, 0, 10000));
        CHECK.refusedIn(Sample::some, "ask(-1, 5, 5, 0)", Sample.UNKNOWN, x -> x.ask(-1, 5, 5, 0));
        CHECK.refusedIn(Sample::some, "ask(0, 10000, 0, 10)", Sample.UNKNOWN, x -> x.ask(0, 10000, 0, 10));
        CHECK.refusedIn(Sample::some, "ask(6, 5, -2, -1)", Sample.UNKNOWN, x -> x.ask(6, 5, -2, -1));
        CHECK.refusedIn(Sample::some, "ask(6, 5, -1, -2)", Sample.UNKNOWN, x -> x.ask(6, 5, -1, -2));
        CHECK.refusedIn(Sample::some, "trend(-1, 1, 2, 3)", Sample.UNKNOWN, x -> x.trend(-1, 1, 2, 3));
        CHECK.refusedIn(Sample::some, "trend(0, 0, 2, 3)", Sample.UNKNOWN, x -> x.trend(0, 0, 2, 3));
        CHECK.refusedIn(Sample::some, "trend(0, 1, 7, -1)", Sample.UNKNOWN, x -> x.trend(0, 1, 7, -1));
        CHECK.refusedIn(Sample::some, "trend(9999, 1, 2, 3)", Sample.UNKNOWN, x -> x.trend(9999, 1, 2, 3));
        CHECK.refusedIn(Sample::some, "people(10, -1)", Sample.UNKNOWN, x -> x.people(10, -1));
        CHECK.refusedIn(Sample::some, "people(-1, 1000001)", Sample.UNKNOWN, x -> x.people(-1, 1000001));
    }

    /** "[..] a number outside its range: IndexOutOfBoundsException; [..] no room". */
    private static void rangeAheadOfRoom() {
        CHECK.refusedIn(Sample::fullOfDefinitions, "no room: define(10000, 5)", Sample.RANGE,
                x -> x.define(10000, 5));
        CHECK.refusedIn(Sample::fullOfDefinitions, "no room: define(-1, 5)", Sample.RANGE, x -> x.define(-1, 5));
        CHECK.refusedIn(Sample::fullOfDefinitions, "no room: define(5, 20001)", Sample.RANGE,
                x -> x.define(5, 20001));
        CHECK.refusedIn(Sample::fullOfDefinitions, "no room: define(5, -1)", Sample.RANGE, x -> x.define(5, -1));
    }

    /** "[..] then, where it is told, ArithmeticException." */
    private static void allElseAheadOfArithmetic() {
        CHECK.refusedIn(Sample::withoutShare, "share(2), only rows without", Sample.UNKNOWN, x -> x.share(2));
        CHECK.refusedIn(Sample::withoutShare, "share(-1), only rows without", Sample.UNKNOWN, x -> x.share(-1));
        CHECK.refusedIn(Sample::withoutShare, "compare(6, 5), only rows without", Sample.RANGE,
                x -> x.compare(6, 5));
        CHECK.refusedIn(Sample::withoutShare, "compare(0, 10000), only rows without", Sample.RANGE,
                x -> x.compare(0, 10000));
        CHECK.refusedIn(Sample::withoutShare, "perThousand(10), no people", Sample.UNKNOWN,
                x -> x.perThousand(10));
        CHECK.refusedIn(Sample::withoutShare, "perThousand(-1), no people", Sample.UNKNOWN,
                x -> x.perThousand(-1));
    }

    /** "What is refused changes nothing": nor does what is only asked. */
    private static void askingChangesNothing() {
        ShareStatistics x = Sample.some();
        String first = Check.allAnswers(x);
        CHECK.equal("asked twice", Check.allAnswers(x), first);
    }

    /** "DAYS are 0 .. 9,999, HOURS 0 .. 23, KINDS 0 .. 4, AREAS 0 .. 9, STATIONS 0 .. 5." */
    private static void daysHoursKindsAreasStations() {
        for (int day : new int[] {0, 1, 9998, 9999}) {
            ShareStatistics x = new ShareStatistics();
            x.row(day, 0, 0, 0, 0, 0);
            x.ask(day, day, -1, -1);
            CHECK.equal("day " + day, x.count(0), 1);
        }
        ShareStatistics x = new ShareStatistics();
        for (int i = 0; i < 24; i++) {
            x.row(5, i, i % 5, i % 10, i % 6, 0);
        }
        for (int hour = 0; hour < 24; hour++) {
            CHECK.equal("hour " + hour, x.hour(hour), 1);
        }
        int[] ofStation = {4, 4, 4, 4, 4, 4};
        for (int station = 0; station < 6; station++) {
            CHECK.equal("station " + station, x.work(station, 0), ofStation[station]);
        }
        int[] ofKind = {5, 5, 5, 5, 4};
        for (int kind = 0; kind < 5; kind++) {
            x.ask(5, 5, kind, -1);
            CHECK.equal("kind " + kind, x.count(0), ofKind[kind]);
        }
        int[] ofArea = {3, 3, 3, 3, 2, 2, 2, 2, 2, 2};
        for (int area = 0; area < 10; area++) {
            x.ask(5, 5, -1, area);
            CHECK.equal("area " + area, x.count(0), ofArea[area]);
        }
    }

    /** "TURN-OUT and TRAVEL seconds (0 .. 9,999 each; -1: without a value)". */
    private static void valuesAreOrAreNot() {
        int[] seconds = {-1, 0, 1, 9998, 9999};
        for (int turnOut : seconds) {
            for (int travel : seconds) {
                ShareStatistics x = new ShareStatistics();
                Sample.tellRow(x, 5, 0, 0, turnOut, travel);
                String which = " of " + turnOut + " and " + travel;
                boolean both = turnOut >= 0 && travel >= 0;
                CHECK.equal("count(4)" + which, x.count(4), Math.max(turnOut, 0));
                CHECK.equal("work" + which, x.work(0, 1), Math.max(turnOut, 0) + Math.max(travel, 0));
                CHECK.equal("placed" + which, x.placed(100), both ? turnOut + travel : -1);
                x.define(5, 0);
                CHECK.equal("without" + which, x.count(3), both ? 0 : 1);
            }
        }
    }

    /** "A SPAN has the days from one to another one (both themselves)." */
    private static void spansHaveBothTheirDays() {
        ShareStatistics x = new ShareStatistics();
        for (int day = 10; day <= 14; day++) {
            Sample.tellMany(x, day, 0, 1);
        }
        x.ask(11, 13, -1, -1);
        CHECK.equal("11 .. 13", x.count(0), 3);
        x.ask(12, 12, -1, -1);
        CHECK.equal("12 .. 12", x.count(0), 1);
        x.ask(14, 9999, -1, -1);
        CHECK.equal("14 .. 9999", x.count(0), 1);
        x.ask(15, 9999, -1, -1);
        CHECK.equal("15 .. 9999", x.count(0), 0);
        x.ask(0, 10, -1, -1);
        CHECK.equal("0 .. 10", x.count(0), 1);
        x.ask(0, 9, -1, -1);
        CHECK.equal("0 .. 9", x.count(0), 0);
    }

    /** "A question of a span asks for a kind and an area, each or any (-1)." */
    private static void eachOrAny() {
        ShareStatistics x = new ShareStatistics();
        x.row(1, 0, 0, 0, 0, 0);
        x.row(1, 0, 0, 9, 0, 0);
        x.row(1, 0, 4, 0, 0, 0);
        x.row(1, 0, 4, 9, 0, 0);
        x.row(1, 0, 2, 5, 0, 0);
        int[][] due = {{-1, -1, 5}, {0, -1, 2}, {4, -1, 2}, {-1, 0, 2}, {-1, 9, 2}, {0, 9, 1}, {4, 0, 1}, {2, 0, 0}};
        for (int[] d : due) {
            x.ask(0, 9999, d[0], d[1]);
            CHECK.equal("kind " + d[0] + ", area " + d[1], x.count(0), d[2]);
        }
    }

    private static ShareStatistics withHidden(boolean hiddenToo) {
        ShareStatistics x = new ShareStatistics();
        x.define(5, 100);
        x.least(1);
        for (int i = 0; i < 30; i++) {
            for (int marks = 0; marks < (hiddenToo ? 4 : 2); marks++) {
                int row = x.row(i, i % 24, i % 5, (i + marks / 2) % 10, i % 6, marks);
                x.values(row, 40 + i - marks / 2, 2 * i);
            }
        }
        for (int area = 0; area < 10; area++) {
            x.people(area, 500 + area);
        }
        return x;
    }

    /** "Hidden rows count nowhere but where it is told." (A least of 1 joins no area, where they would.) */
    private static void hiddenRowsCountNowhere() {
        ShareStatistics with = withHidden(true);
        ShareStatistics without = withHidden(false);
        CHECK.equal("all answers with hidden rows", Check.allAnswers(with), Check.allAnswers(without));
        with.ask(3, 26, 1, 1);
        without.ask(3, 26, 1, 1);
        CHECK.equal("rows of a narrow question", with.count(0), 4);
        CHECK.equal("all answers of a narrow question", Check.allAnswers(with), Check.allAnswers(without));
    }

    private static void hiddenRowsAloneAreNothing() {
        ShareStatistics x = new ShareStatistics();
        ShareStatistics none = new ShareStatistics();
        x.define(0, 100);
        none.define(0, 100);
        for (int marks = 2; marks <= 3; marks++) {
            x.values(x.row(5, 6, 1, 2, 3, marks), 10, 20);
        }
        CHECK.equal("hidden rows alone", Check.allAnswers(x), Check.allAnswers(none));
        CHECK.refused("share of hidden rows alone", Sample.NOT_TOLD, () -> x.share(0));
        CHECK.equal("joined of hidden rows alone", x.joined(), 0);
    }

    /** On each day one row of that sum, whether it is within (1), not (0) or without (-1). */
    private static void dueOnDays(String state, ShareStatistics x, int[] days, int... due) {
        for (int i = 0; i < days.length; i++) {
            x.ask(days[i], days[i], -1, -1);
            int got = x.count(3) == 1 ? -1 : x.count(2);
            CHECK.equal(state + ", day " + days[i], got, due[i]);
        }
    }

    private static int[] rowsOnDays(ShareStatistics x, int sum, int... days) {
        for (int day : days) {
            Sample.tellRow(x, day, 0, 0, sum, 0);
        }
        return days;
    }

    /** "DEFINITIONS [..] hold from a day on until the next one's day". */
    private static void definitionsHoldUntilTheNext() {
        ShareStatistics x = new ShareStatistics();
        int[] days = rowsOnDays(x, 50, 0, 99, 100, 101, 199, 200, 201, 9998, 9999);
        dueOnDays("no definition", x, days, -1, -1, -1, -1, -1, -1, -1, -1, -1);
        x.define(100, 50);
        dueOnDays("one from 100 on", x, days, -1, -1, 1, 1, 1, 1, 1, 1, 1);
        x.define(200, 49);
        dueOnDays("the next from 200 on", x, days, -1, -1, 1, 1, 1, 0, 0, 0, 0);
        x.define(201, 50);
        dueOnDays("the next of one day alone", x, days, -1, -1, 1, 1, 1, 0, 1, 1, 1);
        x.define(9999, 0);
        dueOnDays("the last day's", x, days, -1, -1, 1, 1, 1, 0, 1, 1, 0);
        x.define(0, 0);
        dueOnDays("the first day's", x, days, 0, 0, 1, 1, 1, 0, 1, 1, 0);
    }

    /** "[..] until the next one's day": the next by day, whichever was told first. */
    private static void definitionsToldInAnyOrder() {
        ShareStatistics x = new ShareStatistics();
        int[] days = rowsOnDays(x, 50, 0, 1, 299, 300, 400);
        x.define(300, 49);
        x.define(1, 50);
        dueOnDays("the later day told first", x, days, -1, 1, 1, 0, 0);
        x.define(299, 10);
        dueOnDays("a third between", x, days, -1, 1, 0, 0, 0);
        x.define(400, 50);
        dueOnDays("a fourth behind", x, days, -1, 1, 0, 0, 1);
    }

    /** "of one day the one told last". */
    private static void ofOneDayTheOneToldLast() {
        ShareStatistics x = new ShareStatistics();
        int[] days = rowsOnDays(x, 50, 99, 100, 200);
        x.define(100, 50);
        x.define(100, 49);
        dueOnDays("the second is lower", x, days, -1, 0, 0);
        x.define(100, 50);
        dueOnDays("the third is higher", x, days, -1, 1, 1);
        x.define(200, 49);
        x.define(100, 51);
        dueOnDays("again of the first day", x, days, -1, 1, 0);
        x.define(200, 50);
        dueOnDays("the sixth", x, days, -1, 1, 1);
    }

    /** "A row that has both values is WITHIN when their sum is not above the mark"; "a MARK (0 .. 20,000)". */
    private static void notAboveTheMark() {
        int[][] due = {
            {0, 0, 0, 1}, {1, 0, 0, 0}, {0, 1, 0, 0}, {0, 1, 1, 1}, {1, 1, 1, 0},
            {9999, 9999, 19997, 0}, {9999, 9999, 19998, 1}, {9999, 9999, 20000, 1},
            {60, 40, 99, 0}, {60, 40, 100, 1}, {60, 40, 101, 1},
        };
        for (int[] d : due) {
            ShareStatistics x = new ShareStatistics();
            x.define(7, d[2]);
            Sample.tellRow(x, 7, 0, 0, d[0], d[1]);
            String which = d[0] + " and " + d[1] + " under " + d[2];
            CHECK.equal(which + ": within", x.count(2), d[3]);
            CHECK.equal(which + ": without", x.count(3), 0);
            CHECK.equal(which + ": share", x.share(0), d[3]);
            CHECK.equal(which + ": share of", x.share(1), 1);
        }
    }

    /** "a row of a day without a definition, or without both values, is WITHOUT." */
    private static void rowsWithout() {
        int[][] due = {{4, 0, 0, 1}, {5, 0, 0, 0}, {5, -1, 0, 1}, {5, 0, -1, 1}, {5, -1, -1, 1}, {4, -1, -1, 1}};
        for (int[] d : due) {
            ShareStatistics x = new ShareStatistics();
            x.define(5, 20000);
            Sample.tellRow(x, d[0], 0, 0, d[1], d[2]);
            String which = "day " + d[0] + ", " + d[1] + " and " + d[2];
            CHECK.equal(which + ": without", x.count(3), d[3]);
            CHECK.equal(which + ": within", x.count(2), 1 - d[3]);
        }
    }

    /** "An object is used for at most 512 calls": the last ones still hold. */
    private static void upTo512Calls() {
        ShareStatistics x = new ShareStatistics();
        x.define(0, 10);
        for (int i = 0; i < 200; i++) {
            Sample.tellRow(x, i, 0, i % 10, i % 20, 0);
        }
        for (int call = 402; call <= 511; call++) {
            CHECK.equal("call " + call, x.count(0), 200);
        }
        CHECK.equal("call 512", x.count(2), 110);
    }
}
