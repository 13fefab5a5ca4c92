/** Promises 14, 15, 17 and 18, areas: each sentence that names a boundary, as a test of its own. */
public final class BoundaryAreasTest {
    private static final Check CHECK = new Check();

    public static void main(String[] args) {
        perThousandRoundedDown();
        perThousandAtItsHighest();
        perThousandOfSpanAndKind();
        perThousandUnknown();
        perThousandWithoutPeople();
        rankOfTheSame();
        rankOfAll();
        rankOfSpanAndKind();
        rankUnknown();
        joinedFromOneUpToLeast();
        emptyAreasAreNotJoined();
        joinedUntilTheyAreNotLess();
        theFewestIsJoinedToo();
        ofTheSameTheLowest();
        untilThereIsNone();
        hiddenRowsOfTheSpanHelp();
        withoutSuchAreasNoneIsJoined();
        secrecyOfAnyKindAndArea();
        secrecyReckonedAnew();
        shownUnknown();
        CHECK.end("BoundaryAreasTest");
    }

    private static ShareStatistics of(int... rowsOfArea) {
        ShareStatistics x = new ShareStatistics();
        for (int area = 0; area < rowsOfArea.length; area++) {
            Sample.tellMany(x, 10, area, rowsOfArea[area]);
        }
        return x;
    }

    private static ShareStatistics withLeast(int least, int... rowsOfArea) {
        ShareStatistics x = of(rowsOfArea);
        x.least(least);
        return x;
    }

    private static void hide(ShareStatistics x, int day, int area, int howMany) {
        for (int i = 0; i < howMany; i++) {
            x.row(day, 0, i % 5, area, 0, 2 + i % 2);
        }
    }

    /** What is shown of the first areas; of those behind them 0 is. */
    private static void shownAre(String state, ShareStatistics x, int joined, int... due) {
        for (int area = 0; area < 10; area++) {
            CHECK.equal(state + ": shown(" + area + ")", x.shown(area), area < due.length ? due[area] : 0);
        }
        CHECK.equal(state + ": joined()", x.joined(), joined);
    }

    /** Promise 14: "1,000 times the rows of an area [..] over its people, rounded down." */
    private static void perThousandRoundedDown() {
        int[][] due = {
            {0, 1, 0}, {0, 1000000, 0}, {1, 1000, 1}, {1, 1001, 0}, {1, 999, 1}, {1, 501, 1}, {1, 500, 2},
            {3, 1000, 3}, {3, 1501, 1}, {3, 1500, 2}, {3, 1499, 2}, {7, 1000000, 0}, {7, 7000, 1}, {7, 7001, 0},
        };
        for (int[] d : due) {
            ShareStatistics x = of(0, d[0]);
            x.people(1, d[1]);
            CHECK.equal(d[0] + " rows, " + d[1] + " people", x.perThousand(1), d[2]);
        }
    }

    /** Promise 14: all rows, one of the people; all rows, all people. */
    private static void perThousandAtItsHighest() {
        ShareStatistics x = of(0, 0, 0, 0, 0, 0, 0, 0, 0, 200);
        x.people(9, 1);
        CHECK.equal("200 rows, one of the people", x.perThousand(9), 200000);
        x.people(9, 200000);
        CHECK.equal("200 rows, 200000 people", x.perThousand(9), 1);
        x.people(9, 200001);
        CHECK.equal("200 rows, 200001 people", x.perThousand(9), 0);
    }

    private static ShareStatistics ofTwoKinds() {
        ShareStatistics x = new ShareStatistics();
        int[][] rows = {{9, 1, 0}, {10, 1, 0}, {11, 1, 1}, {11, 2, 0}, {11, 2, 0}, {12, 1, 1}, {12, 1, 1}};
        for (int[] r : rows) {
            x.row(r[0], 0, r[1], r[2], 0, 0);
        }
        hide(x, 10, 0, 5);
        x.people(0, 1000);
        x.people(1, 1000);
        return x;
    }

    /** Promise 14: "(of the question's span and kind)": whatever its area. */
    private static void perThousandOfSpanAndKind() {
        ShareStatistics x = ofTwoKinds();
        int[][] due = {{0, 9999, -1, 4, 3}, {10, 11, -1, 3, 1}, {10, 11, 1, 1, 1}, {0, 9999, 2, 2, 0}, {12, 12, 1, 0, 2}};
        for (int[] d : due) {
            for (int area = -1; area < 10; area++) {
                x.ask(d[0], d[1], d[2], area);
                CHECK.equal("perThousand(0), area " + area, x.perThousand(0), d[3]);
                CHECK.equal("perThousand(1), area " + area, x.perThousand(1), d[4]);
            }
        }
    }

    /** Promise 14: "Unknown: no such area". */
    private static void perThousandUnknown() {
        for (int n : Sample.outside(0, 9)) {
            CHECK.refusedIn(Sample::some, "perThousand(" + n + ")", Sample.UNKNOWN, x -> x.perThousand(n));
        }
    }

    /** Promise 14: "ArithmeticException: it has none." */
    private static void perThousandWithoutPeople() {
        for (int area = 0; area < 10; area++) {
            int a = area;
            boolean has = area == 1 || area == 2;
            if (!has) {
                CHECK.refusedIn(Sample::some, "perThousand(" + a + ")", Sample.NOT_TOLD, x -> x.perThousand(a));
            }
        }
        ShareStatistics x = Sample.some();
        x.people(1, 0);
        CHECK.refused("people taken back", Sample.NOT_TOLD, () -> x.perThousand(1));
    }

    private static void ranksAre(String state, ShareStatistics x, int... due) {
        for (int area = 0; area < 10; area++) {
            CHECK.equal(state + ": rank(" + area + ")", x.rank(area), due[area]);
        }
    }

    /** Promise 15: "1 and how many areas have more": those of the same have the same rank. */
    private static void rankOfTheSame() {
        ranksAre("no rows", of(), 1, 1, 1, 1, 1, 1, 1, 1, 1, 1);
        ranksAre("the same each", of(3, 3, 3, 3, 3, 3, 3, 3, 3, 3), 1, 1, 1, 1, 1, 1, 1, 1, 1, 1);
        ranksAre("one has a row", of(0, 0, 0, 0, 0, 0, 0, 0, 0, 1), 2, 2, 2, 2, 2, 2, 2, 2, 2, 1);
        ranksAre("one has none", of(1, 1, 1, 1, 0, 1, 1, 1, 1, 1), 1, 1, 1, 1, 10, 1, 1, 1, 1, 1);
        ranksAre("two first, two third", of(5, 2, 5, 2), 1, 3, 1, 3, 5, 5, 5, 5, 5, 5);
    }

    private static void rankOfAll() {
        ranksAre("rising", of(0, 1, 2, 3, 4, 5, 6, 7, 8, 9), 10, 9, 8, 7, 6, 5, 4, 3, 2, 1);
        ranksAre("falling", of(9, 8, 7, 6, 5, 4, 3, 2, 1), 1, 2, 3, 4, 5, 6, 7, 8, 9, 10);
    }

    /** Promise 15: "by rows of the question's span and kind": whatever its area, without hidden rows. */
    private static void rankOfSpanAndKind() {
        ShareStatistics x = ofTwoKinds();
        int[][] due = {{0, 9999, -1, 1, 2, 3}, {0, 9999, 1, 2, 1, 3}, {10, 11, 1, 1, 1, 3}, {12, 12, -1, 2, 1, 2}};
        for (int[] d : due) {
            for (int area = -1; area < 10; area++) {
                x.ask(d[0], d[1], d[2], area);
                CHECK.equal("rank(0), area " + area, x.rank(0), d[3]);
                CHECK.equal("rank(1), area " + area, x.rank(1), d[4]);
                CHECK.equal("rank(2), area " + area, x.rank(2), d[5]);
            }
        }
    }

    /** Promise 15: "Unknown: no such area." */
    private static void rankUnknown() {
        for (int n : Sample.outside(0, 9)) {
            CHECK.refusedIn(Sample::some, "rank(" + n + ")", Sample.UNKNOWN, x -> x.rank(n));
        }
    }

    /** Terms: "areas with 1 to least - 1 rows are JOINED". */
    private static void joinedFromOneUpToLeast() {
        shownAre("3 at first", of(1, 2, 3, 4), 3, -1, -1, 3, 4);
        shownAre("a least of 1", withLeast(1, 1, 2, 3), 0, 1, 2, 3);
        shownAre("a least of 2", withLeast(2, 1, 1, 2), 2, -1, -1, 2);
        shownAre("a least of 100", withLeast(100, 99, 1, 100), 100, -1, -1, 100);
        shownAre("all joined", withLeast(20, 1, 2, 3, 4, 5, 6, 7, 8, 9, 10), 55, -1, -1, -1, -1, -1, -1, -1, -1, -1, -1);
    }

    /** Terms: "1 to least - 1 rows", "(not 0, not joined [..])". */
    private static void emptyAreasAreNotJoined() {
        shownAre("no rows", of(), 0);
        shownAre("one row, the last area", of(0, 0, 0, 0, 0, 0, 0, 0, 0, 1), 1, 0, 0, 0, 0, 0, 0, 0, 0, 0, -1);
        shownAre("empty ones stay shown", of(0, 2, 0, 5), 7, 0, -1, 0, -1);
    }

    /** Terms: "their rows [..] are less than the least together". */
    private static void joinedUntilTheyAreNotLess() {
        shownAre("one below the least", withLeast(10, 4, 5, 11, 10), 19, -1, -1, 11, -1);
        shownAre("the least itself", withLeast(10, 5, 5, 11, 10), 10, -1, -1, 11, 10);
        shownAre("one above the least", withLeast(10, 6, 5, 11, 10), 11, -1, -1, 11, 10);
    }

    /** Terms: "the area with the fewest rows (not 0, not joined [..]) is joined, too". */
    private static void theFewestIsJoinedToo() {
        shownAre("the fewest first", of(3, 4, 5, 1), 4, -1, 4, 5, -1);
        shownAre("the fewest last", of(1, 9, 8, 7, 6, 5, 4, 3, 12, 0), 4, -1, 9, 8, 7, 6, 5, 4, -1, 12);
        shownAre("the least itself is the fewest", withLeast(5, 2, 6, 5), 7, -1, 6, -1);
    }

    /** Terms: "of the same the lowest". */
    private static void ofTheSameTheLowest() {
        shownAre("the first of two", of(4, 4, 1), 5, -1, 4, -1);
        shownAre("behind the small one", of(2, 5, 4, 4, 4), 6, -1, 5, -1, 4, 4);
        shownAre("nine of the same", of(3, 3, 3, 3, 3, 3, 3, 3, 3, 2), 5, -1, 3, 3, 3, 3, 3, 3, 3, 3, -1);
    }

    /** Terms: "again and again, until they are not, or there is none." */
    private static void untilThereIsNone() {
        shownAre("one row alone", of(1), 1, -1);
        shownAre("two rows alone", of(0, 2), 2, 0, -1);
        shownAre("two areas of one row", of(1, 0, 1), 2, -1, 0, -1);
        shownAre("the highest least", withLeast(100, 99), 99, -1);
        ShareStatistics x = withLeast(100, 90);
        hide(x, 10, 5, 9);
        shownAre("with hidden rows, still less", x, 99, -1);
    }

    /** Terms: "with all hidden rows of the span"; promise 18: "(of all areas of the question's span)". */
    private static void hiddenRowsOfTheSpanHelp() {
        ShareStatistics x = withLeast(5, 2, 6, 7);
        x.ask(10, 20, -1, -1);
        hide(x, 9, 0, 3);
        hide(x, 21, 0, 3);
        shownAre("hidden ones outside the span", x, 8, -1, -1, 7);
        hide(x, 10, 1, 2);
        shownAre("less by one", x, 10, -1, -1, 7);
        hide(x, 20, 9, 1);
        shownAre("no longer less", x, 5, -1, 6, 7);
        hide(x, 15, 0, 1);
        shownAre("one more", x, 6, -1, 6, 7);
        x.ask(0, 9999, 3, 3);
        shownAre("all days", x, 12, -1, 6, 7);
    }

    /** Terms: "(Without such areas none is joined; hidden rows count only there.)"; promise 18: "0 without such". */
    private static void withoutSuchAreasNoneIsJoined() {
        ShareStatistics x = of(3, 4);
        hide(x, 10, 0, 1);
        hide(x, 10, 5, 1);
        shownAre("hidden rows, no small area", x, 0, 3, 4);
        ShareStatistics hidden = new ShareStatistics();
        hide(hidden, 10, 5, 2);
        shownAre("hidden rows alone", hidden, 0);
        ShareStatistics one = withLeast(1, 1);
        hide(one, 10, 5, 2);
        shownAre("a least of 1", one, 0, 1);
    }

    /** Promise 17: "in the question's span (any kind)". */
    private static void secrecyOfAnyKindAndArea() {
        ShareStatistics x = new ShareStatistics();
        for (int kind = 0; kind < 5; kind++) {
            x.row(10 + kind, 0, kind, 1, 0, kind % 2);
        }
        x.row(10, 0, 4, 2, 0, 0);
        for (int kind = -1; kind < 5; kind++) {
            x.ask(10, 14, kind, kind);
            shownAre("kind and area " + kind, x, 6, 0, -1, -1);
            x.ask(11, 13, kind, kind);
            shownAre("days 11 .. 13, kind and area " + kind, x, 0, 0, 3);
            x.ask(12, 13, kind, kind);
            shownAre("days 12 .. 13, kind and area " + kind, x, 2, 0, -1);
        }
    }

    /** What is joined follows what is told: nothing stays from an earlier answer. */
    private static void secrecyReckonedAnew() {
        ShareStatistics x = of(2, 5);
        shownAre("two rows", x, 7, -1, -1);
        Sample.tellMany(x, 10, 0, 1);
        shownAre("three rows", x, 0, 3, 5);
        x.least(4);
        shownAre("a least of 4", x, 8, -1, -1);
        hide(x, 10, 9, 1);
        shownAre("a hidden row", x, 4, -1, 5);
        x.ask(11, 11, -1, -1);
        shownAre("another day", x, 0, 0, 0);
    }

    /** Promise 17: "Unknown: no such area." */
    private static void shownUnknown() {
        for (int n : Sample.outside(0, 9)) {
            CHECK.refusedIn(Sample::some, "shown(" + n + ")", Sample.UNKNOWN, x -> x.shown(n));
        }
    }
}
