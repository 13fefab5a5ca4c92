import java.util.Random;

/** Long runs of calls, each answer against the model's; the same runs each time. */
public final class ModelTest {
    private static final int RUNS = 600;
    private static final int CALLS = 512;
    private static final int[] STRANGE = {
        Integer.MIN_VALUE, Integer.MIN_VALUE + 1, -10000, -2, -1, 0, 1, 2, 3, 4, 5, 6, 7, 9, 10, 23, 24, 100,
        101, 199, 200, 201, 1000, 1001, 9998, 9999, 10000, 20000, 20001, 1000000, 1000001, 1 << 30,
        Integer.MAX_VALUE - 1, Integer.MAX_VALUE,
    };

    private final Check check = new Check();
    private final Random random;
    private final int run;
    private final ShareStatistics x = new ShareStatistics();
    private final Model model = new Model();
    private final int days;
    private final int seconds;
    private final int strangeness;
    private int rows;
    private int calls;

    private ModelTest(int run) {
        this.run = run;
        random = new Random(run);
        days = new int[] {5, 40, 10000}[random.nextInt(3)];
        seconds = new int[] {4, 60, 10000}[random.nextInt(3)];
        strangeness = new int[] {5, 30, 300}[random.nextInt(3)];
    }

    public static void main(String[] args) {
        for (int run = 0; run < RUNS; run++) {
            ModelTest test = new ModelTest(run);
            // One step makes up to three calls, and an object's answers are promised up to its 512th.
            while (test.calls <= CALLS - 3) {
                test.oneStep(test.calls);
            }
            if (test.check.hasWrong()) {
                test.check.end("ModelTest, run " + run);
            }
        }
        new Check().end("ModelTest");
    }

    /** Mostly below the limit, sometimes a number that no call would hope for. */
    private int n(int limit) {
        return random.nextInt(strangeness) == 0 ? STRANGE[random.nextInt(STRANGE.length)] : random.nextInt(limit);
    }

    private int orAny(int limit) {
        return random.nextInt(3) > 0 ? -1 : n(limit);
    }

    private int day() {
        return random.nextInt(40) == 0 ? n(10000) : n(days);
    }

    private int second() {
        return random.nextInt(6) == 0 ? -1 : n(seconds);
    }

    private void oneStep(int call) {
        // Every fourth run fills all 200 rows.
        int telling = run % 4 == 0 ? 300 : 150;
        int kindOfCall = random.nextInt(call < telling ? (run % 4 == 0 ? 7 : 10) : 26);
        if (kindOfCall < 5) {
            tellRow();
        } else if (kindOfCall < 8) {
            tellValues();
        } else {
            otherCall(call, random.nextInt(20));
        }
    }

    private void tellRow() {
        int day = day();
        int hour = n(24);
        int kind = n(5);
        int area = random.nextBoolean() ? n(3) : n(10);
        int station = n(6);
        int marks = random.nextInt(3) == 0 ? n(4) : 0;
        same("row", () -> x.row(day, hour, kind, area, station, marks),
                () -> rows = model.row(day, hour, kind, area, station, marks));
    }

    private void tellValues() {
        int row = n(rows + 1);
        int turnOut = second();
        int travel = second();
        same("values", () -> {
            x.values(row, turnOut, travel);
            return 0;
        }, () -> model.values(row, turnOut, travel));
    }

    private void otherCall(int call, int which) {
        switch (which) {
            case 0 -> tellDefinition(call);
            case 1, 2, 3 -> ask();
            case 4 -> tellPeople();
            case 5 -> tellLeast();
            case 6, 7 -> trend();
            case 8 -> compare();
            case 9 -> same("splits", x::splits, model::splits);
            case 10 -> same("joined", x::joined, model::joined);
            case 11, 12 -> askArea();
            case 13 -> askHour();
            case 14 -> askShare();
            case 15 -> askPlaced();
            case 16 -> askWork();
            default -> askCount();
        }
    }

    private void tellDefinition(int call) {
        int day = day();
        int mark = random.nextBoolean() ? n(2 * seconds + 1) : seconds;
        if (call > 20 || random.nextBoolean()) {
            same("define", () -> x.define(day, mark), () -> model.define(day, mark));
        }
    }

    private void ask() {
        int a = day();
        int b = day();
        int from = random.nextInt(8) == 0 ? a : Math.min(a, b);
        int to = random.nextInt(8) == 0 ? b : Math.max(a, b);
        int kind = orAny(5);
        int area = orAny(10);
        same("ask", () -> {
            x.ask(from, to, kind, area);
            return 0;
        }, () -> model.ask(from, to, kind, area));
    }

    private void tellPeople() {
        int area = n(10);
        int people = random.nextBoolean() ? n(1000001) : n(3000);
        same("people", () -> {
            x.people(area, people);
            return 0;
        }, () -> model.people(area, people));
    }

    private void tellLeast() {
        int least = random.nextInt(4) == 0 ? n(101) : n(12);
        same("least", () -> {
            x.least(least);
            return 0;
        }, () -> model.least(least));
    }

    private void trend() {
        int from = day();
        int length = days == 10000 ? 1 + n(1000) : 1 + n(3);
        int periods = 2 + n(5);
        for (int w = 0; w < 3; w++) {
            int what = random.nextInt(20) == 0 ? n(3) : w;
            same("trend", () -> x.trend(from, length, periods, what),
                    () -> model.trend(from, length, periods, what));
        }
    }

    private void compare() {
        int a = day();
        int b = day();
        int from = random.nextInt(8) == 0 ? a : Math.min(a, b);
        int to = random.nextInt(8) == 0 ? b : Math.max(a, b);
        same("compare", () -> x.compare(from, to), () -> model.compare(from, to));
    }

    private void askArea() {
        int area = n(10);
        same("perThousand", () -> x.perThousand(area), () -> model.perThousand(area));
        same("rank", () -> x.rank(area), () -> model.rank(area));
        same("shown", () -> x.shown(area), () -> model.shown(area));
    }

    private void askHour() {
        int hour = n(24);
        same("hour", () -> x.hour(hour), () -> model.hour(hour));
    }

    private void askShare() {
        int what = n(2);
        same("share", () -> x.share(what), () -> model.share(what));
    }

    private void askPlaced() {
        int p = n(101);
        same("placed", () -> x.placed(p), () -> model.placed(p));
    }

    private void askWork() {
        int station = n(6);
        int what = n(2);
        same("work", () -> x.work(station, what), () -> model.work(station, what));
    }

    private void askCount() {
        int what = n(5);
        same("count", () -> x.count(what), () -> model.count(what));
    }

    private void same(String call, Check.Asked got, Check.Asked want) {
        calls++;
        check.equal("run " + run + ": " + call, Check.answer(got), Check.answer(want));
    }
}
