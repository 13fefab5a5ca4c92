/** Promises 5 to 11 and 19: ask, count, hour, share, placed, splits, compare, work. */
public final class QuestionTest {
    private static final Check CHECK = new Check();
    private static final Class<ArithmeticException> NOT_TOLD = ArithmeticException.class;

    public static void main(String[] args) {
        askNarrows();
        othersDoNotCount();
        counts();
        hours();
        shares();
        placedValues();
        splits();
        compares();
        works();
        CHECK.end("QuestionTest");
    }

    /** A row of each kind and area on each of four days; each day has an hour of its own. */
    private static ShareStatistics filled() {
        ShareStatistics x = new ShareStatistics();
        for (int i = 0; i < 200; i++) {
            int day = i / 50;
            int kind = i % 5;
            int area = i / 5 % 10;
            x.row(day * 3333, day, kind, area, kind, 0);
        }
        return x;
    }

    private static void askNarrows() {
        ShareStatistics x = filled();
        CHECK.equal("ahead of a question", x.count(0), 200);
        x.ask(0, 9999, -1, -1);
        CHECK.equal("any kind and area", x.count(0), 200);
        x.ask(0, 9998, -1, -1);
        CHECK.equal("up to the day before the last", x.count(0), 150);
        x.ask(1, 9999, -1, -1);
        CHECK.equal("from the second day", x.count(0), 150);
        x.ask(3333, 6666, -1, -1);
        CHECK.equal("both days themselves", x.count(0), 100);
        x.ask(3333, 3333, -1, -1);
        CHECK.equal("one day", x.count(0), 50);
        x.ask(3334, 6665, -1, -1);
        CHECK.equal("between", x.count(0), 0);
        x.ask(0, 9999, 4, -1);
        CHECK.equal("a kind", x.count(0), 40);
        x.ask(0, 9999, -1, 9);
        CHECK.equal("an area", x.count(0), 20);
        x.ask(0, 9999, 0, 0);
        CHECK.equal("a kind and an area", x.count(0), 4);
        x.ask(0, 0, 0, 0);
        CHECK.equal("a kind and an area of one day", x.count(0), 1);
        CHECK.equal("its hour", x.hour(0), 1);
        CHECK.equal("another hour", x.hour(1), 0);
    }

    /** Each answer of a question is its own rows', whatever stands ahead, behind or beside it. */
    private static void othersDoNotCount() {
        ShareStatistics x = new ShareStatistics();
        x.define(0, 100);
        int[][] others = {{9, 1, 1}, {21, 1, 1}, {15, 0, 1}, {15, 2, 1}, {15, 1, 0}, {15, 1, 2}};
        for (int[] other : others) {
            tell(x, other, 50, 50, 1);
            tell(x, other, 0, 1, 0);
            tell(x, other, 5000, 0, 0);
            tell(x, other, 3, -1, 1);
        }
        tell(x, new int[] {10, 1, 1}, 40, 20, 1);
        tell(x, new int[] {15, 1, 1}, 70, 0, 0);
        tell(x, new int[] {20, 1, 1}, 80, 90, 0);
        tell(x, new int[] {20, 1, 1}, 7, -1, 0);
        tell(x, new int[] {20, 1, 1}, -1, 7, 0);
        x.people(1, 1000);
        x.ask(10, 20, 1, 1);
        int[] want = {5, 1, 2, 2, 197};
        for (int what = 0; what < want.length; what++) {
            CHECK.equal("its rows alone: count(" + what + ")", x.count(what), want[what]);
        }
        CHECK.equal("its rows alone: hour", x.hour(7), 5);
        CHECK.equal("its rows alone: share's upper", x.share(0), 2);
        CHECK.equal("its rows alone: share's lower", x.share(1), 3);
        CHECK.equal("its rows alone: placed(1)", x.placed(1), 60);
        CHECK.equal("its rows alone: placed(100)", x.placed(100), 170);
        CHECK.equal("its rows alone: compare with 1/2", x.compare(20, 21), 1);
        CHECK.equal("its rows alone: compare with 1", x.compare(10, 15), -1);
        CHECK.equal("its rows alone: perThousand", x.perThousand(1), 5);
        CHECK.equal("its span alone: work's rows", x.work(3, 0), 21);
        CHECK.equal("its span alone: work's seconds", x.work(3, 1), 314 + 4 * 5104);
    }

    private static void tell(ShareStatistics x, int[] dayKindArea, int turnOut, int travel, int marks) {
        int row = x.row(dayKindArea[0], 7, dayKindArea[1], dayKindArea[2], 3, marks);
        x.values(row, turnOut, travel);
    }

    private static void counts() {
        ShareStatistics x = new ShareStatistics();
        x.define(10, 100);
        add(x, 10, 60, 40, 0);
        add(x, 10, 60, 41, 1);
        add(x, 9, 1, 1, 1);
        add(x, 11, 5, -1, 0);
        add(x, 11, -1, 5, 1);
        add(x, 11, 50, 50, 2);
        add(x, 11, 50, 50, 3);
        add(x, 12, 0, 0, 0);
        int[] want = {6, 3, 2, 3, 126};
        for (int what = 0; what < want.length; what++) {
            CHECK.equal("count(" + what + ")", x.count(what), want[what]);
        }
    }

    private static void hours() {
        ShareStatistics x = new ShareStatistics();
        x.row(1, 0, 0, 0, 0, 0);
        x.row(1, 23, 0, 1, 0, 1);
        x.row(1, 23, 1, 1, 0, 0);
        x.row(1, 23, 1, 1, 0, 2);
        x.row(2, 23, 1, 1, 0, 0);
        CHECK.equal("hour(0)", x.hour(0), 1);
        CHECK.equal("hour(23)", x.hour(23), 3);
        CHECK.equal("hour(12)", x.hour(12), 0);
        x.ask(1, 1, 1, 1);
        CHECK.equal("hour(23) of a question", x.hour(23), 1);
        CHECK.equal("hour(0) of a question", x.hour(0), 0);
    }

    private static void shares() {
        ShareStatistics x = new ShareStatistics();
        CHECK.refused("share of no rows", NOT_TOLD, () -> x.share(0));
        x.row(1, 0, 0, 0, 0, 0);
        x.define(0, 10);
        CHECK.refused("share of rows without alone", NOT_TOLD, () -> x.share(1));
        add(x, 1, 9, 9, 0);
        CHECK.equal("none within: upper", x.share(0), 0);
        CHECK.equal("none within: lower", x.share(1), 1);
        add(x, 1, 5, 5, 1);
        CHECK.equal("one of two: upper", x.share(0), 1);
        CHECK.equal("one of two: lower", x.share(1), 2);
        for (int i = 0; i < 7; i++) {
            add(x, 1, 5, 4, 0);
            add(x, 1, 5, 4, 2);
        }
        add(x, 1, 9, 9, 0);
        CHECK.equal("eight of ten: upper", x.share(0), 4);
        CHECK.equal("eight of ten: lower", x.share(1), 5);
        x.define(0, 20);
        CHECK.equal("all: upper", x.share(0), 1);
        CHECK.equal("all: lower", x.share(1), 1);
        x.ask(0, 0, -1, -1);
        CHECK.refused("share of a span without rows", NOT_TOLD, () -> x.share(0));
    }

    private static void placedValues() {
        ShareStatistics x = new ShareStatistics();
        CHECK.equal("placed of nothing", x.placed(100), -1);
        add(x, 1, 30, 0, 0);
        CHECK.equal("placed(1) of one", x.placed(1), 30);
        CHECK.equal("placed(100) of one", x.placed(100), 30);
        add(x, 1, 10, 0, 0);
        add(x, 1, 0, 20, 1);
        add(x, 1, 1, -1, 0);
        add(x, 1, -1, 1, 0);
        add(x, 1, 0, 1, 2);
        int[] p = {1, 33, 34, 66, 67, 99, 100};
        int[] want = {10, 10, 20, 20, 30, 30, 30};
        for (int i = 0; i < p.length; i++) {
            CHECK.equal("placed(" + p[i] + ") of three", x.placed(p[i]), want[i]);
        }
        add(x, 2, 20, 0, 0);
        CHECK.equal("placed(50) of four", x.placed(50), 20);
        CHECK.equal("placed(51) of four", x.placed(51), 20);
        CHECK.equal("placed(75) of four", x.placed(75), 20);
        CHECK.equal("placed(76) of four", x.placed(76), 30);
        x.ask(2, 2, -1, -1);
        CHECK.equal("placed of a question", x.placed(1), 20);
        ShareStatistics full = new ShareStatistics();
        for (int i = 0; i < 200; i++) {
            full.row(0, 0, 0, 0, 0, 0);
            full.values(i, (i * 77 + 5) % 200, 0);
        }
        for (int place = 1; place <= 100; place++) {
            CHECK.equal("placed(" + place + ") of 200", full.placed(place), 2 * place - 1);
        }
    }

    private static void splits() {
        ShareStatistics x = new ShareStatistics();
        CHECK.equal("splits without definitions", x.splits(), 0);
        x.define(0, 5);
        CHECK.equal("a definition from the first day on splits nothing", x.splits(), 0);
        x.define(100, 6);
        CHECK.equal("another mark splits", x.splits(), 1);
        x.define(200, 6);
        CHECK.equal("the same mark again does not", x.splits(), 1);
        x.define(100, 5);
        CHECK.equal("the one told last moves the split to 200", x.splits(), 1);
        x.ask(0, 199, 0, 0);
        CHECK.equal("so none ahead of 200", x.splits(), 0);
        x.ask(199, 200, -1, -1);
        CHECK.equal("the span's last day may split", x.splits(), 1);
        x.ask(200, 300, -1, -1);
        CHECK.equal("the span's first day does not", x.splits(), 0);
        x.define(50, 7);
        x.ask(0, 9999, 4, 9);
        CHECK.equal("told later for between", x.splits(), 3);
        x.define(9999, 8);
        CHECK.equal("the last day", x.splits(), 4);
        ShareStatistics y = new ShareStatistics();
        y.define(10, 5);
        CHECK.equal("from none to one splits", y.splits(), 1);
        y.define(10, 6);
        CHECK.equal("two of one day split once", y.splits(), 1);
        y.ask(10, 10, -1, -1);
        CHECK.equal("one day has no split", y.splits(), 0);
        ShareStatistics z = new ShareStatistics();
        z.define(10, 0);
        CHECK.equal("a mark of 0 is not none", z.splits(), 1);
    }

    private static void compares() {
        ShareStatistics x = new ShareStatistics();
        x.define(0, 10);
        for (int i = 0; i < 3; i++) {
            add(x, 1, i < 2 ? 1 : 11, 0, 0);
        }
        for (int i = 0; i < 6; i++) {
            add(x, 2, i < 4 ? 1 : 11, 0, 1);
        }
        for (int i = 0; i < 4; i++) {
            add(x, 3, i < 3 ? 1 : 11, 0, 0);
        }
        add(x, 3, 11, 0, 2);
        add(x, 3, 11, -1, 0);
        add(x, 4, 11, 0, 0);
        add(x, 5, 1, 0, 0);
        x.ask(1, 1, -1, -1);
        CHECK.equal("2/3 and itself", x.compare(1, 1), 0);
        CHECK.equal("2/3 and 4/6", x.compare(2, 2), 0);
        CHECK.equal("2/3 and 3/4", x.compare(3, 3), -1);
        CHECK.equal("2/3 and 0", x.compare(4, 4), 1);
        CHECK.equal("2/3 and 1", x.compare(5, 5), -1);
        CHECK.equal("2/3 and 9/13", x.compare(1, 3), -1);
        x.ask(3, 3, -1, -1);
        CHECK.equal("3/4 and 2/3", x.compare(0, 1), 1);
        x.row(6, 0, 1, 1, 0, 0);
        x.values(17, 99, 99);
        x.row(6, 0, 1, 2, 0, 0);
        x.values(18, 1, 1);
        x.ask(6, 6, 1, 1);
        CHECK.refused("the other span has the question's kind and area", NOT_TOLD, () -> x.compare(1, 1));
        CHECK.equal("0 and 0", x.compare(0, 9999), 0);
        x.ask(6, 6, 1, -1);
        CHECK.equal("1/2 and itself in another span", x.compare(0, 9999), 0);
    }

    private static void works() {
        ShareStatistics x = new ShareStatistics();
        x.row(1, 0, 0, 0, 5, 0);
        x.values(0, 10, 20);
        x.row(2, 0, 1, 1, 5, 1);
        x.values(1, 100, -1);
        x.row(3, 0, 2, 2, 5, 0);
        x.values(2, -1, 1000);
        x.row(3, 0, 2, 2, 5, 0);
        x.row(3, 0, 2, 2, 5, 2);
        x.values(4, 5000, 5000);
        x.row(3, 0, 2, 2, 0, 0);
        x.values(5, 3, 4);
        CHECK.equal("work(5, 0)", x.work(5, 0), 4);
        CHECK.equal("work(5, 1)", x.work(5, 1), 1130);
        CHECK.equal("work(0, 0)", x.work(0, 0), 1);
        CHECK.equal("work(0, 1)", x.work(0, 1), 7);
        CHECK.equal("work(1, 0)", x.work(1, 0), 0);
        CHECK.equal("work(1, 1)", x.work(1, 1), 0);
        x.ask(2, 3, 0, 9);
        CHECK.equal("work of a span, of any kind and area: rows", x.work(5, 0), 3);
        CHECK.equal("work of a span, of any kind and area: seconds", x.work(5, 1), 1100);
    }

    private static void add(ShareStatistics x, int day, int turnOut, int travel, int marks) {
        int row = x.row(day, 0, 0, 0, 0, marks);
        x.values(row, turnOut, travel);
    }
}
