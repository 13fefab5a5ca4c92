/** Promises 1 to 4: a new object, row, values, define. */
public final class RowsTest {
    private static final Check CHECK = new Check();
    private static final Class<IllegalArgumentException> UNKNOWN = IllegalArgumentException.class;
    private static final Class<IndexOutOfBoundsException> RANGE = IndexOutOfBoundsException.class;
    private static final Class<UnsupportedOperationException> NO_ROOM = UnsupportedOperationException.class;

    public static void main(String[] args) {
        newObject();
        rowsAndMarks();
        rowEdges();
        rowRefusals();
        rowNoRoom();
        valuesTold();
        valuesRefusals();
        definitions();
        definitionsInAnyOrder();
        defineRefusals();
        CHECK.end("RowsTest");
    }

    private static void newObject() {
        ShareStatistics x = new ShareStatistics();
        for (int what = 0; what < 5; what++) {
            CHECK.equal("new: count(" + what + ")", x.count(what), 0);
        }
        CHECK.equal("new: splits()", x.splits(), 0);
        CHECK.equal("new: joined()", x.joined(), 0);
        for (int area = 0; area < 10; area++) {
            int a = area;
            CHECK.refused("new: perThousand", x, ArithmeticException.class, () -> x.perThousand(a));
            CHECK.equal("new: shown", x.shown(area), 0);
            CHECK.equal("new: rank", x.rank(area), 1);
        }
        CHECK.refused("new: values(0, ..)", x, UNKNOWN, () -> x.values(0, 1, 1));
        CHECK.equal("new: first row", x.row(0, 0, 0, 0, 0, 0), 0);
        CHECK.equal("new: first definition", x.define(0, 0), 1);
        ShareStatistics y = new ShareStatistics();
        CHECK.equal("a second object shares nothing", y.count(0), 0);
        CHECK.equal("a second object's first row", y.row(0, 0, 0, 0, 0, 0), 0);
    }

    private static void rowsAndMarks() {
        ShareStatistics x = new ShareStatistics();
        for (int marks = 0; marks < 4; marks++) {
            CHECK.equal("row with marks " + marks, x.row(1, 2, 3, 4, 5, marks), marks);
        }
        CHECK.equal("hidden rows do not count", x.count(0), 2);
        CHECK.equal("a row both false and hidden does not count", x.count(1), 1);
        CHECK.equal("rows come without values", x.count(3), 2);
        CHECK.equal("rows come without values: turn-out", x.count(4), 0);
        CHECK.equal("rows come without values: placed", x.placed(100), -1);
        CHECK.equal("hour(2)", x.hour(2), 2);
        CHECK.equal("work(5, 0)", x.work(5, 0), 2);
    }

    private static void rowEdges() {
        ShareStatistics x = new ShareStatistics();
        CHECK.equal("lowest row", x.row(0, 0, 0, 0, 0, 0), 0);
        CHECK.equal("highest row", x.row(9999, 23, 4, 9, 5, 3), 1);
        CHECK.equal("highest row that counts", x.row(9999, 23, 4, 9, 5, 1), 2);
        x.ask(9999, 9999, 4, 9);
        CHECK.equal("the row of the last day", x.count(0), 1);
        CHECK.equal("its hour", x.hour(23), 1);
        CHECK.equal("its station", x.work(5, 0), 1);
    }

    private static void rowRefusals() {
        ShareStatistics x = new ShareStatistics();
        x.row(3, 3, 3, 3, 3, 0);
        int[] low = {-1, Integer.MIN_VALUE};
        for (int n : low) {
            CHECK.refused("row: kind " + n, x, UNKNOWN, () -> x.row(0, 0, n, 0, 0, 0));
            CHECK.refused("row: area " + n, x, UNKNOWN, () -> x.row(0, 0, 0, n, 0, 0));
            CHECK.refused("row: station " + n, x, UNKNOWN, () -> x.row(0, 0, 0, 0, n, 0));
            CHECK.refused("row: day " + n, x, RANGE, () -> x.row(n, 0, 0, 0, 0, 0));
            CHECK.refused("row: hour " + n, x, RANGE, () -> x.row(0, n, 0, 0, 0, 0));
            CHECK.refused("row: marks " + n, x, RANGE, () -> x.row(0, 0, 0, 0, 0, n));
        }
        CHECK.refused("row: kind 5", x, UNKNOWN, () -> x.row(0, 0, 5, 0, 0, 0));
        CHECK.refused("row: area 10", x, UNKNOWN, () -> x.row(0, 0, 0, 10, 0, 0));
        CHECK.refused("row: station 6", x, UNKNOWN, () -> x.row(0, 0, 0, 0, 6, 0));
        CHECK.refused("row: day 10000", x, RANGE, () -> x.row(10000, 0, 0, 0, 0, 0));
        CHECK.refused("row: hour 24", x, RANGE, () -> x.row(0, 24, 0, 0, 0, 0));
        CHECK.refused("row: marks 4", x, RANGE, () -> x.row(0, 0, 0, 0, 0, 4));
        CHECK.refused("row: unknown ahead of range", x, UNKNOWN, () -> x.row(-1, -1, 0, 0, 6, -1));
        CHECK.equal("refused rows take no number", x.row(0, 0, 0, 0, 0, 0), 1);
    }

    private static void rowNoRoom() {
        ShareStatistics x = new ShareStatistics();
        for (int i = 0; i < 198; i++) {
            CHECK.equal("row " + i, x.row(i, i % 24, i % 5, i % 9, i % 6, 0), i);
        }
        CHECK.equal("row 198, of a small area", x.row(198, 0, 0, 9, 0, 0), 198);
        CHECK.equal("row 199, of a small area", x.row(199, 0, 0, 9, 0, 0), 199);
        CHECK.refused("the 201st row", x, NO_ROOM, () -> x.row(0, 0, 0, 0, 0, 0));
        CHECK.refused("full: a hidden row", x, NO_ROOM, () -> x.row(0, 0, 0, 0, 0, 2));
        CHECK.refused("full: unknown first", x, UNKNOWN, () -> x.row(0, 0, 5, 0, 0, 0));
        CHECK.refused("full: range first", x, RANGE, () -> x.row(10000, 0, 0, 0, 0, 0));
        CHECK.equal("full: count", x.count(0), 200);
        CHECK.equal("full: the small area is joined", x.shown(9), -1);
        CHECK.equal("full: with another one of 22 rows", x.joined(), 24);
        x.values(199, 9999, 9999);
        CHECK.equal("full: the last row's values", x.placed(100), 19998);
        CHECK.refused("full: values(200, ..)", x, UNKNOWN, () -> x.values(200, 1, 1));
    }

    private static void valuesTold() {
        ShareStatistics x = new ShareStatistics();
        x.define(0, 100);
        x.row(1, 1, 1, 1, 1, 0);
        x.row(2, 2, 2, 2, 2, 0);
        x.values(0, 0, 0);
        CHECK.equal("zero seconds are values", x.placed(50), 0);
        CHECK.equal("zero seconds are within", x.count(2), 1);
        x.values(1, 9999, 9999);
        CHECK.equal("highest values", x.placed(100), 19998);
        CHECK.equal("highest values are not without", x.count(3), 0);
        x.values(1, 7, -1);
        CHECK.equal("one value alone: without", x.count(3), 1);
        CHECK.equal("one value alone: turn-out", x.count(4), 7);
        CHECK.equal("one value alone: work", x.work(2, 1), 7);
        x.values(1, -1, 8);
        CHECK.equal("travel alone: without", x.count(3), 1);
        CHECK.equal("travel alone: turn-out", x.count(4), 0);
        CHECK.equal("travel alone: work", x.work(2, 1), 8);
        x.values(0, -1, -1);
        x.values(1, -1, -1);
        CHECK.equal("values taken back", x.placed(1), -1);
        CHECK.equal("values taken back: without", x.count(3), 2);
    }

    private static void valuesRefusals() {
        ShareStatistics x = new ShareStatistics();
        x.define(0, 100);
        x.row(1, 1, 1, 1, 1, 0);
        x.values(0, 20, 30);
        CHECK.refused("values: row 1", x, UNKNOWN, () -> x.values(1, 0, 0));
        CHECK.refused("values: row -1", x, UNKNOWN, () -> x.values(-1, 0, 0));
        CHECK.refused("values: row 200", x, UNKNOWN, () -> x.values(200, 0, 0));
        CHECK.refused("values: last int", x, UNKNOWN, () -> x.values(Integer.MAX_VALUE, 0, 0));
        CHECK.refused("values: turn-out 10000", x, RANGE, () -> x.values(0, 10000, 0));
        CHECK.refused("values: turn-out -2", x, RANGE, () -> x.values(0, -2, 0));
        CHECK.refused("values: travel 10000", x, RANGE, () -> x.values(0, 0, 10000));
        CHECK.refused("values: travel -2", x, RANGE, () -> x.values(0, 0, -2));
        CHECK.refused("values: unknown ahead of range", x, UNKNOWN, () -> x.values(1, -2, -2));
    }

    private static void definitions() {
        ShareStatistics x = new ShareStatistics();
        int[] days = {9, 10, 19, 20};
        for (int i = 0; i < days.length; i++) {
            x.row(days[i], 0, 0, i, 0, 0);
            x.values(i, 50, 50);
        }
        CHECK.equal("no definition: without", x.count(3), 4);
        CHECK.equal("define(10, 100)", x.define(10, 100), 1);
        CHECK.equal("define(20, 99)", x.define(20, 99), 2);
        int[] within = {0, 1, 1, 0};
        int[] without = {1, 0, 0, 0};
        for (int area = 0; area < 4; area++) {
            x.ask(0, 9999, -1, area);
            CHECK.equal("within on day " + days[area], x.count(2), within[area]);
            CHECK.equal("without on day " + days[area], x.count(3), without[area]);
        }
        x.define(20, 100);
        CHECK.equal("of one day the one told last holds", x.count(2), 1);
        x.define(20, 0);
        CHECK.equal("of one day the one told last holds again", x.count(2), 0);
    }

    private static void definitionsInAnyOrder() {
        ShareStatistics x = new ShareStatistics();
        x.row(15, 0, 0, 0, 0, 0);
        x.row(25, 0, 0, 1, 0, 0);
        x.values(0, 100, 0);
        x.values(1, 0, 100);
        x.define(20, 50);
        x.define(10, 100);
        CHECK.equal("an earlier day told later holds up to the next one's day", x.count(2), 1);
        x.ask(25, 25, -1, -1);
        CHECK.equal("and not beyond it", x.count(2), 0);
        x.define(9999, 20000);
        x.define(0, 20000);
        CHECK.equal("nor do those of other days", x.count(2), 0);
    }

    private static void defineRefusals() {
        ShareStatistics x = new ShareStatistics();
        x.row(9999, 0, 0, 0, 0, 0);
        x.values(0, 0, 0);
        CHECK.refused("define: day -1", x, RANGE, () -> x.define(-1, 0));
        CHECK.refused("define: day 10000", x, RANGE, () -> x.define(10000, 0));
        CHECK.refused("define: mark -1", x, RANGE, () -> x.define(0, -1));
        CHECK.refused("define: mark 20001", x, RANGE, () -> x.define(0, 20001));
        CHECK.equal("define: lowest", x.define(0, 0), 1);
        CHECK.equal("define: highest", x.define(9999, 20000), 2);
        for (int i = 3; i <= 6; i++) {
            CHECK.equal("define: " + i, x.define(i * 10, i), i);
        }
        CHECK.refused("define: the 7th", x, NO_ROOM, () -> x.define(1, 1));
        CHECK.refused("define: the 7th, of a day that has one", x, NO_ROOM, () -> x.define(0, 1));
        CHECK.refused("define: range ahead of room", x, RANGE, () -> x.define(10000, 1));
        CHECK.equal("define: mark 0 and a sum of 0", x.count(2), 1);
    }
}
