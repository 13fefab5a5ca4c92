/** Promises 1 to 5, 13 and 16, what is told: each sentence that names a boundary, as a test of its own. */
public final class BoundaryTellingTest {
    private static final Check CHECK = new Check();

    public static void main(String[] args) {
        newObjectHasNoRows();
        newObjectHasNoDefinitions();
        newObjectHasNoPeople();
        objectsAreApart();
        rowNumbersUpToTheLast();
        rowMarks();
        rowUnknown();
        rowRange();
        rowNoRoom();
        rowComesWithoutValues();
        valuesOfEdgeRows();
        valuesToldAgain();
        valuesUnknown();
        valuesRange();
        defineUpToTheLast();
        defineRange();
        defineNoRoom();
        askEdges();
        askUnknown();
        askRange();
        peopleEdges();
        peopleUnknown();
        peopleRange();
        leastEdges();
        leastRange();
        CHECK.end("BoundaryTellingTest");
    }

    /** Promise 1: "No rows". */
    private static void newObjectHasNoRows() {
        ShareStatistics x = new ShareStatistics();
        for (int what = 0; what < 5; what++) {
            CHECK.equal("new: count(" + what + ")", x.count(what), 0);
        }
        for (int hour = 0; hour < 24; hour++) {
            CHECK.equal("new: hour(" + hour + ")", x.hour(hour), 0);
        }
        CHECK.equal("new: placed(1)", x.placed(1), -1);
        CHECK.equal("new: placed(100)", x.placed(100), -1);
        CHECK.equal("new: trend's sum", x.trend(0, 1000, 6, 0), 0);
        CHECK.equal("new: tail's upper", x.trend(0, 1000, 6, 1), 1);
        CHECK.equal("new: tail's lower", x.trend(0, 1000, 6, 2), 1);
        for (int area = 0; area < 10; area++) {
            CHECK.equal("new: rank(" + area + ")", x.rank(area), 1);
            CHECK.equal("new: shown(" + area + ")", x.shown(area), 0);
        }
        CHECK.equal("new: joined()", x.joined(), 0);
        for (int station = 0; station < 6; station++) {
            CHECK.equal("new: work(" + station + ", 0)", x.work(station, 0), 0);
            CHECK.equal("new: work(" + station + ", 1)", x.work(station, 1), 0);
        }
        CHECK.refused("new: values(0, 0, 0)", Sample.UNKNOWN, () -> x.values(0, 0, 0));
        CHECK.equal("new: the first row", x.row(0, 0, 0, 0, 0, 0), 0);
    }

    /** Promise 1: "no definitions". */
    private static void newObjectHasNoDefinitions() {
        ShareStatistics x = new ShareStatistics();
        CHECK.equal("new: splits()", x.splits(), 0);
        Sample.tellRow(x, 0, 0, 0, 0, 0);
        Sample.tellRow(x, 9999, 0, 0, 0, 0);
        CHECK.equal("new: rows without", x.count(3), 2);
        CHECK.refused("new: share", Sample.NOT_TOLD, () -> x.share(0));
        CHECK.equal("new: the first definition", x.define(0, 0), 1);
    }

    /** Promise 1: "each area has no people". */
    private static void newObjectHasNoPeople() {
        ShareStatistics x = new ShareStatistics();
        for (int area = 0; area < 10; area++) {
            int a = area;
            Sample.tellMany(x, 5, area, 1);
            CHECK.refused("new: perThousand(" + area + ")", Sample.NOT_TOLD, () -> x.perThousand(a));
        }
    }

    private static void objectsAreApart() {
        ShareStatistics before = new ShareStatistics();
        ShareStatistics told = Sample.some();
        CHECK.equal("made ahead of another", Check.everything(before), Check.everything(new ShareStatistics()));
        CHECK.equal("the other one", Check.everything(told), Check.everything(Sample.some()));
    }

    /** Promise 2: "One more row: its number", "ROWS 0, 1, .. (at most 200)". */
    private static void rowNumbersUpToTheLast() {
        ShareStatistics x = new ShareStatistics();
        for (int i = 0; i < 200; i++) {
            CHECK.equal("row " + i, x.row(9999 - i, i % 24, i % 5, i % 10, i % 6, i % 4), i);
        }
        CHECK.equal("100 of them are not hidden", x.count(0), 100);
        CHECK.equal("50 of these are false", x.count(1), 50);
        x.values(199, 9999, 9999);
        x.values(197, 9998, 9999);
        CHECK.equal("the last row is hidden, the one two ahead is not", x.placed(100), 19997);
        x.ask(9802, 9802, 197 % 5, 197 % 10);
        CHECK.equal("the row 197 has its own parts", x.hour(197 % 24), 1);
    }

    /** Promise 2: "marks: 1 false, 2 hidden, 3 both, 0 neither." */
    private static void rowMarks() {
        int[][] due = {{0, 1, 0, 0}, {1, 1, 1, 0}, {2, 0, 0, 1}, {3, 0, 0, 1}};
        for (int[] d : due) {
            ShareStatistics x = new ShareStatistics();
            x.row(5, 5, 0, 0, 0, d[0]);
            CHECK.equal("marks " + d[0] + ": rows", x.count(0), d[1]);
            CHECK.equal("marks " + d[0] + ": false ones", x.count(1), d[2]);
            Sample.tellMany(x, 5, 1, 1);
            CHECK.equal("marks " + d[0] + ": joined with a row of another area", x.joined(), 1 + d[1] + d[3]);
        }
    }

    /** Promise 2: "Unknown: no such kind, area or station". */
    private static void rowUnknown() {
        for (int n : Sample.outside(0, 4)) {
            CHECK.refusedIn(Sample::some, "row: kind " + n, Sample.UNKNOWN, x -> x.row(20, 5, n, 1, 1, 0));
        }
        for (int n : Sample.outside(0, 9)) {
            CHECK.refusedIn(Sample::some, "row: area " + n, Sample.UNKNOWN, x -> x.row(20, 5, 1, n, 1, 0));
        }
        for (int n : Sample.outside(0, 5)) {
            CHECK.refusedIn(Sample::some, "row: station " + n, Sample.UNKNOWN, x -> x.row(20, 5, 1, 1, n, 0));
        }
    }

    /** Promise 2: "range: day, hour, marks". */
    private static void rowRange() {
        for (int n : Sample.outside(0, 9999)) {
            CHECK.refusedIn(Sample::some, "row: day " + n, Sample.RANGE, x -> x.row(n, 5, 1, 1, 1, 0));
        }
        for (int n : Sample.outside(0, 23)) {
            CHECK.refusedIn(Sample::some, "row: hour " + n, Sample.RANGE, x -> x.row(20, n, 1, 1, 1, 0));
        }
        for (int n : Sample.outside(0, 3)) {
            CHECK.refusedIn(Sample::some, "row: marks " + n, Sample.RANGE, x -> x.row(20, 5, 1, 1, 1, n));
        }
    }

    /** Promise 2: "no room: there are 200." */
    private static void rowNoRoom() {
        for (int marks = 0; marks < 4; marks++) {
            int m = marks;
            CHECK.refusedIn(Sample::fullOfRows, "the 201st row, marks " + m, Sample.NO_ROOM,
                    x -> x.row(20, 5, 1, 1, 1, m));
        }
        ShareStatistics x = new ShareStatistics();
        for (int i = 0; i < 199; i++) {
            x.row(i, 0, 0, 0, 0, 2);
        }
        CHECK.refused("ahead of the last: kind 5", Sample.UNKNOWN, () -> x.row(0, 0, 5, 0, 0, 0));
        CHECK.equal("the last row, behind a refused one", x.row(0, 0, 0, 0, 0, 0), 199);
        CHECK.refused("no room, though 199 are hidden", Sample.NO_ROOM, () -> x.row(0, 0, 0, 0, 0, 0));
        CHECK.refused("no room, once more", Sample.NO_ROOM, () -> x.row(0, 0, 0, 0, 0, 0));
        CHECK.equal("the one that counts", x.count(0), 1);
    }

    /** Promise 2: "(Without values; see values().)" */
    private static void rowComesWithoutValues() {
        ShareStatistics x = new ShareStatistics();
        x.define(0, 20000);
        x.row(5, 5, 0, 0, 0, 0);
        CHECK.equal("a new row is without", x.count(3), 1);
        CHECK.equal("a new row has no turn-out", x.count(4), 0);
        CHECK.equal("a new row has no sum", x.placed(1), -1);
        CHECK.equal("a new row has no seconds", x.work(0, 1), 0);
        CHECK.equal("a new row is work", x.work(0, 0), 1);
    }

    /** Promise 3: "A row's values", of the first, the last and a hidden one. */
    private static void valuesOfEdgeRows() {
        ShareStatistics x = new ShareStatistics();
        for (int i = 0; i < 200; i++) {
            x.row(i, 0, 0, 0, i % 6, i == 100 ? 2 : 0);
        }
        x.values(0, 1, 2);
        x.values(100, 50, 50);
        x.values(199, 30, 40);
        CHECK.equal("row 0", x.placed(50), 3);
        CHECK.equal("row 199", x.placed(51), 70);
        CHECK.equal("row 100 is hidden", x.count(4), 31);
    }

    /** Promise 3: values are told anew, "-1: without a value". */
    private static void valuesToldAgain() {
        ShareStatistics x = new ShareStatistics();
        x.define(0, 10);
        x.row(5, 5, 0, 0, 0, 0);
        int[][] due = {{4, 6, 1, 0, 4}, {4, 7, 0, 0, 4}, {-1, 7, 0, 1, 0}, {9, -1, 0, 1, 9}, {0, 0, 1, 0, 0}, {-1, -1, 0, 1, 0}};
        for (int[] d : due) {
            x.values(0, d[0], d[1]);
            String which = " of " + d[0] + " and " + d[1];
            CHECK.equal("within" + which, x.count(2), d[2]);
            CHECK.equal("without" + which, x.count(3), d[3]);
            CHECK.equal("turn-out" + which, x.count(4), d[4]);
        }
        CHECK.equal("still one row", x.count(0), 1);
    }

    /** Promise 3: "Unknown: there is none such". */
    private static void valuesUnknown() {
        for (int n : Sample.outside(0, 49)) {
            CHECK.refusedIn(Sample::some, "values: row " + n, Sample.UNKNOWN, x -> x.values(n, 1, 1));
        }
        for (int n : Sample.outside(0, 199)) {
            CHECK.refusedIn(Sample::fullOfRows, "values, full: row " + n, Sample.UNKNOWN, x -> x.values(n, 1, 1));
        }
        for (int n : new int[] {0, -1, 199, 200}) {
            CHECK.refusedIn(ShareStatistics::new, "values, new: row " + n, Sample.UNKNOWN, x -> x.values(n, 1, 1));
        }
    }

    /** Promise 3: "range: they are not so." */
    private static void valuesRange() {
        for (int n : Sample.outside(-1, 9999)) {
            CHECK.refusedIn(Sample::some, "values: turn-out " + n, Sample.RANGE, x -> x.values(1, n, 1));
            CHECK.refusedIn(Sample::some, "values: travel " + n, Sample.RANGE, x -> x.values(1, 1, n));
            CHECK.refusedIn(Sample::some, "values: both " + n, Sample.RANGE, x -> x.values(1, n, n));
        }
    }

    /** Promise 4: "One more definition: how many", "at most 6". */
    private static void defineUpToTheLast() {
        ShareStatistics x = new ShareStatistics();
        int[][] told = {{0, 0}, {9999, 20000}, {0, 20000}, {9999, 0}, {1, 1}, {9998, 19999}};
        for (int i = 0; i < 6; i++) {
            CHECK.equal("define " + i, x.define(told[i][0], told[i][1]), i + 1);
        }
        Sample.tellRow(x, 9998, 0, 0, 9999, 9999);
        CHECK.equal("the sixth holds", x.count(2), 1);
    }

    /** Promise 4: "Range: day, mark". */
    private static void defineRange() {
        for (int n : Sample.outside(0, 9999)) {
            CHECK.refusedIn(Sample::some, "define: day " + n, Sample.RANGE, x -> x.define(n, 5));
        }
        for (int n : Sample.outside(0, 20000)) {
            CHECK.refusedIn(Sample::some, "define: mark " + n, Sample.RANGE, x -> x.define(5, n));
        }
    }

    /** Promise 4: "no room: there are 6." */
    private static void defineNoRoom() {
        CHECK.refusedIn(Sample::fullOfDefinitions, "the seventh", Sample.NO_ROOM, x -> x.define(20, 70));
        CHECK.refusedIn(Sample::fullOfDefinitions, "the seventh, of a day with one", Sample.NO_ROOM,
                x -> x.define(12, 70));
        ShareStatistics x = new ShareStatistics();
        for (int i = 0; i < 5; i++) {
            x.define(7, i);
        }
        CHECK.refused("ahead of the sixth: day 10000", Sample.RANGE, () -> x.define(10000, 0));
        CHECK.equal("the sixth, all of one day", x.define(7, 9), 6);
        CHECK.refused("the seventh, all of one day", Sample.NO_ROOM, () -> x.define(7, 10));
        CHECK.refused("the seventh, once more", Sample.NO_ROOM, () -> x.define(0, 0));
        Sample.tellRow(x, 7, 0, 0, 9, 0);
        CHECK.equal("the sixth holds", x.count(2), 1);
    }

    /** Promise 5: the lowest and the highest of each, and one day alone. */
    private static void askEdges() {
        ShareStatistics x = new ShareStatistics();
        x.row(0, 0, 0, 0, 0, 0);
        x.row(9999, 0, 4, 9, 0, 0);
        int[][] due = {
            {0, 0, -1, -1, 1}, {0, 0, 0, 0, 1}, {0, 0, 4, 9, 0}, {9999, 9999, -1, -1, 1}, {9999, 9999, 4, 9, 1},
            {0, 9999, 0, 9, 0}, {0, 9999, 4, -1, 1}, {0, 9999, -1, 0, 1}, {1, 9998, -1, -1, 0}, {0, 9999, -1, -1, 2},
        };
        for (int[] d : due) {
            x.ask(d[0], d[1], d[2], d[3]);
            CHECK.equal("ask(" + d[0] + ", " + d[1] + ", " + d[2] + ", " + d[3] + ")", x.count(0), d[4]);
        }
    }

    /** Promise 5: "Unknown: no such kind or area". */
    private static void askUnknown() {
        for (int n : Sample.outside(-1, 4)) {
            CHECK.refusedIn(Sample::some, "ask: kind " + n, Sample.UNKNOWN, x -> x.ask(0, 45, n, -1));
        }
        for (int n : Sample.outside(-1, 9)) {
            CHECK.refusedIn(Sample::some, "ask: area " + n, Sample.UNKNOWN, x -> x.ask(0, 45, -1, n));
        }
    }

    /** Promise 5: "range: the days, the second below the first." */
    private static void askRange() {
        for (int n : Sample.outside(0, 9999)) {
            CHECK.refusedIn(Sample::some, "ask: from " + n, Sample.RANGE, x -> x.ask(n, 9999, -1, -1));
            CHECK.refusedIn(Sample::some, "ask: to " + n, Sample.RANGE, x -> x.ask(0, n, -1, -1));
            CHECK.refusedIn(Sample::some, "ask: both " + n, Sample.RANGE, x -> x.ask(n, n, -1, -1));
        }
        int[][] below = {{1, 0}, {6, 5}, {9999, 9998}, {9999, 0}};
        for (int[] b : below) {
            CHECK.refusedIn(Sample::some, "ask(" + b[0] + ", " + b[1] + ")", Sample.RANGE,
                    x -> x.ask(b[0], b[1], -1, -1));
        }
    }

    /** Promise 13: "The people of an area", "0 .. 1,000,000". */
    private static void peopleEdges() {
        for (int area = 0; area < 10; area++) {
            int a = area;
            ShareStatistics x = new ShareStatistics();
            Sample.tellMany(x, 5, area, 2);
            x.people(area, 1);
            CHECK.equal("people(" + area + ", 1)", x.perThousand(area), 2000);
            x.people(area, 1000000);
            CHECK.equal("people(" + area + ", 1000000)", x.perThousand(area), 0);
            x.people(area, 0);
            CHECK.refused("people(" + area + ", 0)", Sample.NOT_TOLD, () -> x.perThousand(a));
            x.people(area, 2000);
            CHECK.equal("people(" + area + ", 2000)", x.perThousand(area), 1);
            int other = (area + 1) % 10;
            CHECK.refused("people of " + other, Sample.NOT_TOLD, () -> x.perThousand(other));
        }
    }

    /** Promise 13: "Unknown: no such area". */
    private static void peopleUnknown() {
        for (int n : Sample.outside(0, 9)) {
            CHECK.refusedIn(Sample::some, "people: area " + n, Sample.UNKNOWN, x -> x.people(n, 5));
        }
    }

    /** Promise 13: "range: 0 .. 1,000,000." */
    private static void peopleRange() {
        for (int n : Sample.outside(0, 1000000)) {
            CHECK.refusedIn(Sample::some, "people: " + n, Sample.RANGE, x -> x.people(1, n));
        }
    }

    /** Promise 16: "a LEAST (1 .. 100; 3 at first)". */
    private static void leastEdges() {
        ShareStatistics x = new ShareStatistics();
        Sample.tellMany(x, 5, 0, 2);
        Sample.tellMany(x, 5, 1, 3);
        Sample.tellMany(x, 5, 2, 99);
        Sample.tellMany(x, 5, 3, 90);
        CHECK.equal("3 at first: 2 rows", x.shown(0), -1);
        CHECK.equal("3 at first: 99 rows", x.shown(2), 99);
        x.least(1);
        CHECK.equal("least(1): 2 rows", x.shown(0), 2);
        x.least(3);
        CHECK.equal("least(3): 2 rows", x.shown(0), -1);
        x.least(2);
        CHECK.equal("least(2): 2 rows", x.shown(0), 2);
        x.least(99);
        CHECK.equal("least(99): 99 rows", x.shown(2), -1);
        CHECK.equal("least(99): 2, 3 and 90 rows are less together", x.joined(), 194);
        x.row(5, 0, 0, 2, 0, 0);
        x.least(100);
        CHECK.equal("least(100): 100 rows, joined for the others' sake", x.shown(2), -1);
        Sample.tellMany(x, 5, 3, 5);
        CHECK.equal("least(100): 100 rows", x.shown(2), 100);
    }

    /** Promise 16: "Range: it is not so." */
    private static void leastRange() {
        for (int n : Sample.outside(1, 100)) {
            CHECK.refusedIn(Sample::some, "least(" + n + ")", Sample.RANGE, x -> x.least(n));
        }
    }
}
