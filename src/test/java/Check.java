/** Compares answers with those that are due, prints each that differs, and ends with 1 if one did. */
final class Check {
    interface Call {
        void run();
    }

    private int wrong;

    void equal(String call, long got, long want) {
        if (got != want) {
            tell(call + " answered " + got + ", due is " + want);
        }
    }

    void equal(String call, String got, String want) {
        if (!got.equals(want)) {
            tell(call + " answered " + got + ", due is " + want);
        }
    }

    /** The call must throw this very class (not one below it, as the machine would) and change nothing. */
    void refused(String call, ShareStatistics x, Class<? extends RuntimeException> want, Call body) {
        String before = allAnswers(x);
        equal(call, thrownBy(body), want.getName());
        equal(call + ", all answers behind it", allAnswers(x), before);
    }

    static String thrownBy(Call body) {
        try {
            body.run();
            return "nothing";
        } catch (RuntimeException e) {
            return nameOf(e);
        }
    }

    /** The machine's own ArithmeticException is of the class that is due, but not thrown by the program. */
    private static String nameOf(RuntimeException e) {
        String name = e.getClass().getName();
        return "/ by zero".equals(e.getMessage()) ? name + " of the machine" : name;
    }

    boolean hasWrong() {
        return wrong != 0;
    }

    void end(String test) {
        System.out.println(test + ": " + (wrong == 0 ? "all answers are as due" : wrong + " are not as due"));
        if (wrong != 0) {
            System.exit(1);
        }
    }

    /** What an object answers to the present question, everything that has an answer. */
    static String allAnswers(ShareStatistics x) {
        StringBuilder all = new StringBuilder();
        for (int what = 0; what < 5; what++) {
            all.append(" count ").append(x.count(what));
        }
        for (int hour = 0; hour < 24; hour++) {
            all.append(" hour ").append(x.hour(hour));
        }
        all.append(" share ").append(answer(() -> x.share(0))).append('/').append(answer(() -> x.share(1)));
        for (int p = 1; p <= 100; p += 11) {
            all.append(" placed ").append(x.placed(p));
        }
        all.append(" splits ").append(x.splits());
        all.append(" compare ").append(answer(() -> x.compare(0, 20)));
        for (int what = 0; what < 3; what++) {
            all.append(" trend ").append(x.trend(0, 10, 4, what));
        }
        for (int area = 0; area < 10; area++) {
            int a = area;
            all.append(" area ").append(answer(() -> x.perThousand(a)));
            all.append(' ').append(x.rank(area)).append(' ').append(x.shown(area));
        }
        all.append(" joined ").append(x.joined());
        for (int station = 0; station < 6; station++) {
            all.append(" work ").append(x.work(station, 0)).append(' ').append(x.work(station, 1));
        }
        return all.toString();
    }

    interface Asked {
        int answer();
    }

    static String answer(Asked asked) {
        try {
            return Integer.toString(asked.answer());
        } catch (RuntimeException e) {
            return nameOf(e);
        }
    }

    private void tell(String what) {
        wrong++;
        System.out.println(what);
    }
}
