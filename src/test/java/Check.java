import java.util.function.Consumer;
import java.util.function.Supplier;

/** Compares answers with those that are due, prints each that differs, and ends with 1 if one did. */
final class Check {
    private int wrong;

    void equal(String call, long got, long want) {
        if (got != want) {
            tell(call + " answered " + got + ", due is " + want);
        }
    }

    void equal(String call, String got, String want) {
        if (!got.equals(want)) {
            tell(call + " answered " + got + ", due is " + want);
        }
    }

    /** The call must throw this very class, not one below it, as the machine would. */
    void refused(String call, Class<? extends RuntimeException> want, Runnable body) {
        equal(call, thrownBy(body), want.getName());
    }

    /**
     * The call must throw this very class and change nothing: all answers stay those of a twin that was never
     * called so. Both are new objects, as nothing is promised behind an object's 512th call.
     */
    void refusedIn(Supplier<ShareStatistics> state, String call, Class<? extends RuntimeException> want,
            Consumer<ShareStatistics> body) {
        ShareStatistics x = state.get();
        refused(call, want, () -> body.accept(x));
        equal(call + ", all answers behind it", everything(x), everything(state.get()));
    }

    static String thrownBy(Runnable body) {
        try {
            body.run();
            return "nothing";
        } catch (RuntimeException e) {
            return nameOf(e);
        }
    }

    /** The machine's own ArithmeticException is of the class that is due, but not thrown by the program. */
    private static String nameOf(RuntimeException e) {
        String name = e.getClass().getName();
        return "/ by zero".equals(e.getMessage()) ? name + " of the machine" : name;
    }

    boolean hasWrong() {
        return wrong != 0;
    }

    void end(String test) {
        System.out.println(test + ": " + (wrong == 0 ? "all answers are as due" : wrong + " are not as due"));
        if (wrong != 0) {
            System.exit(1);
        }
    }

    /** What an object answers to the present question and to the widest one, and the numbers that come next. */
    static String everything(ShareStatistics x) {
        StringBuilder all = new StringBuilder(allAnswers(x));
        x.ask(0, 9999, -1, -1);
        all.append(" of all").append(allAnswers(x));
        all.append(" row ").append(answer(() -> x.row(0, 0, 0, 0, 0, 0)));
        all.append(" define ").append(answer(() -> x.define(0, 0)));
        return all.toString();
    }

    /** What an object answers to the present question, everything that has an answer. */
    static String allAnswers(ShareStatistics x) {
        StringBuilder all = new StringBuilder();
        for (int what = 0; what < 5; what++) {
            all.append(" count ").append(x.count(what));
        }
        for (int hour = 0; hour < 24; hour++) {
            all.append(" hour ").append(x.hour(hour));
        }
        all.append(" share ").append(answer(() -> x.share(0))).append('/').append(answer(() -> x.share(1)));
        for (int p = 1; p <= 100; p += 11) {
            all.append(" placed ").append(x.placed(p));
        }
        all.append(" splits ").append(x.splits());
        all.append(" compare ").append(answer(() -> x.compare(0, 20)));
        for (int what = 0; what < 3; what++) {
            all.append(" trend ").append(x.trend(0, 10, 4, what));
        }
        for (int area = 0; area < 10; area++) {
            int a = area;
            all.append(" area ").append(answer(() -> x.perThousand(a)));
            all.append(' ').append(x.rank(area)).append(' ').append(x.shown(area));
        }
        all.append(" joined ").append(x.joined());
        for (int station = 0; station < 6; station++) {
            all.append(" work ").append(x.work(station, 0)).append(' ').append(x.work(station, 1));
        }
        return all.toString();
    }

    interface Asked {
        int answer();
    }

    static String answer(Asked asked) {
        try {
            return Integer.toString(asked.answer());
        } catch (RuntimeException e) {
            return nameOf(e);
        }
    }

    private void tell(String what) {
        wrong++;
        System.out.println(what);
    }
}
