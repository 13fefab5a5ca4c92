/** Promises 2 to 4: row, values, define. */
public final class RowsTest {
    private static final Check CHECK = new Check();

    public static void main(String[] args) {
        rowsAndMarks();
        rowEdges();
        valuesTold();
        definitions();
        definitionsInAnyOrder();
        CHECK.end("RowsTest");
    }

    private static void rowsAndMarks() {
        ShareStatistics x = new ShareStatistics();
        for (int marks = 0; marks < 4; marks++) {
            CHECK.equal("row with marks " + marks, x.row(1, 2, 3, 4, 5, marks), marks);
        }
        CHECK.equal("hidden rows do not count", x.count(0), 2);
        CHECK.equal("a row both false and hidden does not count", x.count(1), 1);
        CHECK.equal("rows come without values", x.count(3), 2);
        CHECK.equal("rows come without values: turn-out", x.count(4), 0);
        CHECK.equal("rows come without values: placed", x.placed(100), -1);
        CHECK.equal("hour(2)", x.hour(2), 2);
        CHECK.equal("work(5, 0)", x.work(5, 0), 2);
    }

    private static void rowEdges() {
        ShareStatistics x = new ShareStatistics();
        CHECK.equal("lowest row", x.row(0, 0, 0, 0, 0, 0), 0);
        CHECK.equal("highest row", x.row(9999, 23, 4, 9, 5, 3), 1);
        CHECK.equal("highest row that counts", x.row(9999, 23, 4, 9, 5, 1), 2);
        x.ask(9999, 9999, 4, 9);
        CHECK.equal("the row of the last day", x.count(0), 1);
        CHECK.equal("its hour", x.hour(23), 1);
        CHECK.equal("its station", x.work(5, 0), 1);
    }

    private static void valuesTold() {
        ShareStatistics x = new ShareStatistics();
        x.define(0, 100);
        x.row(1, 1, 1, 1, 1, 0);
        x.row(2, 2, 2, 2, 2, 0);
        x.values(0, 0, 0);
        CHECK.equal("zero seconds are values", x.placed(50), 0);
        CHECK.equal("zero seconds are within", x.count(2), 1);
        x.values(1, 9999, 9999);
        CHECK.equal("highest values", x.placed(100), 19998);
        CHECK.equal("highest values are not without", x.count(3), 0);
        x.values(1, 7, -1);
        CHECK.equal("one value alone: without", x.count(3), 1);
        CHECK.equal("one value alone: turn-out", x.count(4), 7);
        CHECK.equal("one value alone: work", x.work(2, 1), 7);
        x.values(1, -1, 8);
        CHECK.equal("travel alone: without", x.count(3), 1);
        CHECK.equal("travel alone: turn-out", x.count(4), 0);
        CHECK.equal("travel alone: work", x.work(2, 1), 8);
        x.values(0, -1, -1);
        x.values(1, -1, -1);
        CHECK.equal("values taken back", x.placed(1), -1);
        CHECK.equal("values taken back: without", x.count(3), 2);
    }

    private static void definitions() {
        ShareStatistics x = new ShareStatistics();
        int[] days = {9, 10, 19, 20};
        for (int i = 0; i < days.length; i++) {
            x.row(days[i], 0, 0, i, 0, 0);
            x.values(i, 50, 50);
        }
        CHECK.equal("no definition: without", x.count(3), 4);
        CHECK.equal("define(10, 100)", x.define(10, 100), 1);
        CHECK.equal("define(20, 99)", x.define(20, 99), 2);
        int[] within = {0, 1, 1, 0};
        int[] without = {1, 0, 0, 0};
        for (int area = 0; area < 4; area++) {
            x.ask(0, 9999, -1, area);
            CHECK.equal("within on day " + days[area], x.count(2), within[area]);
            CHECK.equal("without on day " + days[area], x.count(3), without[area]);
        }
        x.define(20, 100);
        CHECK.equal("of one day the one told last holds", x.count(2), 1);
        x.define(20, 0);
        CHECK.equal("of one day the one told last holds again", x.count(2), 0);
    }

    private static void definitionsInAnyOrder() {
        ShareStatistics x = new ShareStatistics();
        x.row(15, 0, 0, 0, 0, 0);
        x.row(25, 0, 0, 1, 0, 0);
        x.values(0, 100, 0);
        x.values(1, 0, 100);
        x.define(20, 50);
        x.define(10, 100);
        CHECK.equal("an earlier day told later holds up to the next one's day", x.count(2), 1);
        x.ask(25, 25, -1, -1);
        CHECK.equal("and not beyond it", x.count(2), 0);
        x.define(9999, 20000);
        x.define(0, 20000);
        CHECK.equal("nor do those of other days", x.count(2), 0);
    }
}
