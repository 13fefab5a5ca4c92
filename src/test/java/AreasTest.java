/** Promises 13 to 18: people, perThousand, rank, least, shown, joined. */
public final class AreasTest {
    private static final Check CHECK = new Check();

    public static void main(String[] args) {
        byPeople();
        ranks();
        smallAreasJoined();
        othersJoinedToo();
        hiddenRowsHelp();
        secrecyOfSpan();
        CHECK.end("AreasTest");
    }

    private static void add(ShareStatistics x, int area, int number) {
        for (int i = 0; i < number; i++) {
            x.row(10, 0, 0, area, 0, 0);
        }
    }

    private static ShareStatistics of(int... numbers) {
        ShareStatistics x = new ShareStatistics();
        for (int area = 0; area < numbers.length; area++) {
            add(x, area, numbers[area]);
        }
        return x;
    }

    private static void byPeople() {
        ShareStatistics x = of(3);
        x.row(20, 0, 1, 0, 0, 1);
        x.row(20, 0, 1, 0, 0, 2);
        x.people(0, 1500);
        CHECK.equal("4000 / 1500, rounded down", x.perThousand(0), 2);
        x.people(0, 4001);
        CHECK.equal("4000 / 4001", x.perThousand(0), 0);
        x.people(0, 4000);
        CHECK.equal("4000 / 4000", x.perThousand(0), 1);
        x.people(0, 1);
        CHECK.equal("4000 / 1", x.perThousand(0), 4000);
        x.ask(10, 10, -1, 5);
        CHECK.equal("of the span, whatever its area", x.perThousand(0), 3000);
        x.ask(0, 9999, 1, -1);
        CHECK.equal("of the kind", x.perThousand(0), 1000);
        x.people(9, 1000000);
        CHECK.equal("an area of people without rows", x.perThousand(9), 0);
        CHECK.equal("the other one's people stand", x.perThousand(0), 1000);
        x.people(0, 0);
        CHECK.refused("people taken back", ArithmeticException.class, () -> x.perThousand(0));
    }

    private static void ranks() {
        ShareStatistics x = of(2, 5, 2, 0, 0, 0, 0, 0, 0, 3);
        x.row(20, 0, 1, 3, 0, 0);
        x.row(20, 0, 1, 3, 0, 2);
        x.row(20, 0, 1, 3, 0, 2);
        int[] want = {3, 1, 3, 5, 6, 6, 6, 6, 6, 2};
        for (int area = 0; area < 10; area++) {
            CHECK.equal("rank(" + area + ")", x.rank(area), want[area]);
        }
        x.ask(10, 10, -1, 4);
        CHECK.equal("rank in a span, whatever its area", x.rank(3), 5);
        CHECK.equal("rank in a span of another", x.rank(1), 1);
        x.ask(0, 9999, 1, -1);
        CHECK.equal("rank of a kind", x.rank(3), 1);
        CHECK.equal("rank of a kind of another", x.rank(1), 2);
    }

    private static void shownAre(String call, ShareStatistics x, int together, int... want) {
        for (int area = 0; area < want.length; area++) {
            CHECK.equal(call + ": shown(" + area + ")", x.shown(area), want[area]);
        }
        CHECK.equal(call + ": joined()", x.joined(), together);
    }

    private static void smallAreasJoined() {
        shownAre("none small", of(3, 4, 5), 0, 3, 4, 5, 0, 0, 0, 0, 0, 0, 0);
        shownAre("two small", of(2, 1, 5), 3, -1, -1, 5, 0, 0, 0, 0, 0, 0, 0);
        ShareStatistics x = of(2, 1, 5);
        x.least(1);
        shownAre("least of 1", x, 0, 2, 1, 5, 0);
        x.least(2);
        shownAre("least of 2", x, 3, -1, -1, 5, 0);
        x.least(6);
        shownAre("least of 6", x, 8, -1, -1, -1, 0);
        x.least(100);
        shownAre("least of 100", x, 8, -1, -1, -1, 0);
        ShareStatistics many = of(99, 100);
        many.least(100);
        shownAre("99 and 100", many, 199, -1, -1, 0);
    }

    private static void othersJoinedToo() {
        shownAre("the fewest of the others", of(2, 9, 5, 7), 7, -1, 9, -1, 7, 0);
        shownAre("of the same the lowest", of(0, 6, 5, 5, 1), 6, 0, 6, -1, 5, -1, 0);
        shownAre("none left", of(0, 0, 1), 1, 0, 0, -1, 0);
        ShareStatistics x = of(20, 2, 10, 9, 2);
        x.least(5);
        shownAre("just below", x, 13, 20, -1, 10, -1, -1, 0);
        x.least(4);
        shownAre("just not below", x, 4, 20, -1, 10, 9, -1, 0);
    }

    private static void hiddenRowsHelp() {
        ShareStatistics x = of(2, 5);
        x.row(10, 0, 3, 9, 0, 2);
        shownAre("a hidden row", x, 3, -1, 5, 0, 0, 0, 0, 0, 0, 0, 0);
        x.row(10, 0, 4, 1, 0, 3);
        shownAre("two hidden rows", x, 4, -1, 5, 0, 0, 0, 0, 0, 0, 0, 0);
        x.row(9, 0, 0, 0, 0, 2);
        x.ask(10, 10, -1, -1);
        shownAre("hidden rows outside the span", x, 4, -1, 5, 0);
        add(x, 0, 1);
        shownAre("hidden rows alone", x, 0, 3, 5, 0);
    }

    private static void secrecyOfSpan() {
        ShareStatistics x = of(2, 5);
        x.row(20, 0, 1, 0, 0, 0);
        x.row(20, 0, 1, 0, 0, 1);
        shownAre("all days", x, 0, 4, 5, 0);
        x.ask(10, 19, 1, 1);
        shownAre("of the span, any kind and area", x, 7, -1, -1, 0);
        x.ask(20, 20, 0, 7);
        shownAre("of another span", x, 2, -1, 0, 0);
        x.ask(30, 40, -1, -1);
        shownAre("of a span without rows", x, 0, 0, 0, 0);
    }
}
