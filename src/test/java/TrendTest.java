/** Promise 12: trend. */
public final class TrendTest {
    private static final Check CHECK = new Check();

    public static void main(String[] args) {
        rising();
        withEqualCounts();
        ofTheQuestion();
        periodsOfDays();
        CHECK.end("TrendTest");
    }

    /** So many rows on each day from 0 on. */
    private static ShareStatistics of(int... counts) {
        ShareStatistics x = new ShareStatistics();
        for (int day = 0; day < counts.length; day++) {
            for (int i = 0; i < counts[day]; i++) {
                x.row(day, 0, 0, 0, 0, 0);
            }
        }
        return x;
    }

    private static void due(ShareStatistics x, int periods, int sum, int upper, int lower) {
        CHECK.equal("sum of " + periods, x.trend(0, 1, periods, 0), sum);
        CHECK.equal("tail's upper of " + periods, x.trend(0, 1, periods, 1), upper);
        CHECK.equal("tail's lower of " + periods, x.trend(0, 1, periods, 2), lower);
    }

    private static void rising() {
        due(of(0, 1), 2, 1, 1, 2);
        due(of(1, 0), 2, -1, 1, 1);
        due(of(0, 1, 2), 3, 3, 1, 6);
        due(of(0, 2, 1), 3, 1, 1, 2);
        due(of(2, 0, 1), 3, -1, 5, 6);
        due(of(2, 1, 0), 3, -3, 1, 1);
        due(of(0, 1, 2, 3, 4, 5), 6, 15, 1, 720);
        due(of(0, 1, 2, 3, 5, 4), 6, 13, 1, 120);
        due(of(5, 4, 3, 2, 1, 0), 6, -15, 1, 1);
    }

    private static void withEqualCounts() {
        due(of(0, 0), 2, 0, 1, 1);
        due(of(3, 3, 3, 3, 3, 3), 6, 0, 1, 1);
        due(of(0, 0, 1), 3, 2, 1, 3);
        due(of(0, 1, 0), 3, 0, 2, 3);
        due(of(0, 0, 1, 1), 4, 4, 1, 6);
        due(of(0, 1, 1, 1, 1, 2), 6, 9, 1, 30);
    }

    private static void ofTheQuestion() {
        ShareStatistics x = new ShareStatistics();
        x.row(0, 0, 1, 1, 0, 0);
        x.row(1, 0, 1, 1, 0, 1);
        x.row(1, 0, 1, 1, 0, 0);
        x.row(0, 0, 2, 1, 0, 0);
        x.row(0, 0, 2, 1, 0, 0);
        x.row(0, 0, 1, 2, 0, 0);
        x.row(0, 0, 1, 2, 0, 0);
        x.row(0, 0, 1, 1, 0, 2);
        x.row(0, 0, 1, 1, 0, 3);
        CHECK.equal("any kind and area", x.trend(0, 1, 2, 0), -1);
        x.ask(50, 60, 1, 1);
        CHECK.equal("its kind and area, not its span, without hidden rows", x.trend(0, 1, 2, 0), 1);
        x.ask(50, 60, 1, -1);
        CHECK.equal("its kind", x.trend(0, 1, 2, 0), -1);
        x.ask(50, 60, -1, 3);
        CHECK.equal("an area without rows", x.trend(0, 1, 2, 0), 0);
    }

    private static void periodsOfDays() {
        ShareStatistics x = new ShareStatistics();
        x.row(3999, 0, 0, 0, 0, 0);
        x.row(4000, 0, 0, 0, 0, 0);
        x.row(9999, 0, 0, 0, 0, 0);
        CHECK.equal("a day ahead is not in", x.trend(4000, 1000, 6, 0), 0);
        x.row(9000, 0, 0, 0, 0, 0);
        CHECK.equal("the last period has its first day", x.trend(4000, 1000, 6, 0), 1);
        x.row(4999, 0, 0, 0, 0, 0);
        CHECK.equal("the first period has its last day", x.trend(4000, 1000, 6, 0), 0);
        x.row(5000, 0, 0, 0, 0, 0);
        x.row(5000, 0, 0, 0, 0, 0);
        x.row(5000, 0, 0, 0, 0, 0);
        CHECK.equal("the next day is the next period's", x.trend(4000, 1000, 2, 0), 1);
        CHECK.equal("the last two days", x.trend(9998, 1, 2, 0), 1);
    }
}
