/** Objects in states that the boundary tests begin with; each call makes a new one. */
final class Sample {
    static final Class<IllegalArgumentException> UNKNOWN = IllegalArgumentException.class;
    static final Class<IndexOutOfBoundsException> RANGE = IndexOutOfBoundsException.class;
    static final Class<UnsupportedOperationException> NO_ROOM = UnsupportedOperationException.class;
    static final Class<ArithmeticException> NOT_TOLD = ArithmeticException.class;

    private Sample() {
    }

    /** Some of everything, and a narrow question, so that a change of any part changes an answer. */
    static ShareStatistics some() {
        ShareStatistics x = new ShareStatistics();
        x.define(10, 100);
        x.define(25, 60);
        tellRows(x, 50);
        tellRest(x);
        return x;
    }

    static ShareStatistics fullOfRows() {
        ShareStatistics x = new ShareStatistics();
        x.define(10, 100);
        tellRows(x, 50);
        for (int i = 50; i < 200; i++) {
            x.row(i, i % 24, i % 5, i % 10, i % 6, i % 4);
        }
        tellRest(x);
        return x;
    }

    static ShareStatistics fullOfDefinitions() {
        ShareStatistics x = new ShareStatistics();
        for (int i = 0; i < 6; i++) {
            x.define(5 + 7 * i, 150 - 20 * i);
        }
        tellRows(x, 50);
        tellRest(x);
        return x;
    }

    /** Rows, but none that a share can be told of, and no people. */
    static ShareStatistics withoutShare() {
        ShareStatistics x = new ShareStatistics();
        x.define(20, 100);
        tellRow(x, 10, 1, 1, 50, 50);
        tellRow(x, 30, 1, 1, 50, -1);
        tellRow(x, 30, 1, 1, -1, 50);
        return x;
    }

    /** A row with values; its number. */
    static int tellRow(ShareStatistics x, int day, int kind, int area, int turnOut, int travel) {
        int row = x.row(day, 0, kind, area, 0, 0);
        x.values(row, turnOut, travel);
        return row;
    }

    /** So many rows without values on one day, of one area. */
    static void tellMany(ShareStatistics x, int day, int area, int howMany) {
        for (int i = 0; i < howMany; i++) {
            x.row(day, 0, 0, area, 0, 0);
        }
    }

    /** Numbers that are not among lowest .. highest: the nearest ones, the farthest, some that wrap when cut. */
    static int[] outside(int lowest, int highest) {
        return new int[] {
            lowest - 1, highest + 1, Integer.MIN_VALUE, Integer.MAX_VALUE,
            lowest + (1 << 24), lowest - (1 << 24), 1 << 30,
        };
    }

    private static void tellRows(ShareStatistics x, int howMany) {
        for (int i = 0; i < howMany; i++) {
            int row = x.row(i % 45, i % 24, i % 5, i % 7, i % 6, i % 9 < 4 ? i % 4 : 0);
            x.values(row, i % 8 == 0 ? -1 : 20 + i, i % 11 == 0 ? -1 : 3 * i % 80);
        }
    }

    private static void tellRest(ShareStatistics x) {
        x.people(1, 700);
        x.people(2, 900);
        x.least(4);
        x.ask(11, 40, 1, 1);
    }
}
