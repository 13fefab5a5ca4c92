import java.util.ArrayList;
import java.util.Comparator;
import java.util.HashSet;
import java.util.List;
import java.util.Set;

/** The document's words a second time: day by day, order by order, without care for speed. */
final class Model {
    private static final int NONE = -1;

    private static final class Row {
        int day;
        int hour;
        int kind;
        int area;
        int station;
        boolean isFalse;
        boolean isHidden;
        int turnOut = NONE;
        int travel = NONE;

        boolean hasBoth() {
            return turnOut >= 0 && travel >= 0;
        }
    }

    private final List<Row> rows = new ArrayList<>();
    private final int[] markOfDay = new int[10000];
    private final List<int[]> definitions = new ArrayList<>();
    private final int[] people = new int[10];
    private int from = 0;
    private int to = 9999;
    private int kind = NONE;
    private int area = NONE;
    private int least = 3;

    Model() {
        java.util.Arrays.fill(markOfDay, NONE);
    }

    int row(int day, int hour, int rowKind, int rowArea, int station, int marks) {
        unknown(rowKind < 0 || rowKind > 4 || rowArea < 0 || rowArea > 9 || station < 0 || station > 5);
        range(day < 0 || day > 9999 || hour < 0 || hour > 23 || marks < 0 || marks > 3);
        room(rows.size() == 200);
        Row row = new Row();
        row.day = day;
        row.hour = hour;
        row.kind = rowKind;
        row.area = rowArea;
        row.station = station;
        row.isFalse = marks == 1 || marks == 3;
        row.isHidden = marks == 2 || marks == 3;
        rows.add(row);
        return rows.size() - 1;
    }

    int values(int row, int turnOut, int travel) {
        unknown(row < 0 || row >= rows.size());
        range(turnOut < -1 || turnOut > 9999 || travel < -1 || travel > 9999);
        rows.get(row).turnOut = turnOut;
        rows.get(row).travel = travel;
        return 0;
    }

    int define(int day, int mark) {
        range(day < 0 || day > 9999 || mark < 0 || mark > 20000);
        room(definitions.size() == 6);
        definitions.add(new int[] {day, mark});
        List<int[]> byDay = new ArrayList<>(definitions);
        byDay.sort(Comparator.comparingInt(d -> d[0]));
        for (int[] definition : byDay) {
            java.util.Arrays.fill(markOfDay, definition[0], 10000, definition[1]);
        }
        return definitions.size();
    }

    int ask(int first, int last, int askedKind, int askedArea) {
        unknown(askedKind < -1 || askedKind > 4 || askedArea < -1 || askedArea > 9);
        span(first, last);
        from = first;
        to = last;
        kind = askedKind;
        area = askedArea;
        return 0;
    }

    int count(int what) {
        unknown(what < 0 || what > 4);
        int answer = 0;
        for (Row row : asked(from, to, kind, area)) {
            switch (what) {
                case 0 -> answer++;
                case 1 -> answer += row.isFalse ? 1 : 0;
                case 2 -> answer += isWithin(row) ? 1 : 0;
                case 3 -> answer += isWithout(row) ? 1 : 0;
                default -> answer += Math.max(row.turnOut, 0);
            }
        }
        return answer;
    }

    int hour(int hour) {
        range(hour < 0 || hour > 23);
        return (int) asked(from, to, kind, area).stream().filter(row -> row.hour == hour).count();
    }

    int share(int what) {
        unknown(what != 0 && what != 1);
        return lowest(shareOf(from, to))[what];
    }

    int placed(int p) {
        range(p < 1 || p > 100);
        int[] sums = asked(from, to, kind, area).stream().filter(Row::hasBoth)
                .mapToInt(row -> row.turnOut + row.travel).sorted().toArray();
        if (sums.length == 0) {
            return -1;
        }
        int place = 1;
        while (place * 100 < p * sums.length) {
            place++;
        }
        return sums[place - 1];
    }

    int splits() {
        int splits = 0;
        for (int day = from + 1; day <= to; day++) {
            splits += markOfDay[day] != markOfDay[day - 1] ? 1 : 0;
        }
        return splits;
    }

    int compare(int first, int last) {
        span(first, last);
        int[] own = shareOf(from, to);
        int[] other = shareOf(first, last);
        return Integer.signum(own[0] * other[1] - other[0] * own[1]);
    }

    int trend(int first, int days, int periods, int what) {
        unknown(what < 0 || what > 2);
        range(periods < 2 || periods > 6 || days < 1 || days > 1000);
        range(first < 0 || (long) first + (long) days * periods > 10000);
        int[] counts = new int[periods];
        for (int i = 0; i < periods; i++) {
            int start = first + i * days;
            counts[i] = asked(start, start + days - 1, kind, area).size();
        }
        int sum = sumOf(counts);
        int[] tail = new int[2];
        permute(counts.clone(), 0, sum, tail);
        return what == 0 ? sum : lowest(tail)[what - 1];
    }

    int people(int ofArea, int n) {
        unknown(ofArea < 0 || ofArea > 9);
        range(n < 0 || n > 1000000);
        people[ofArea] = n;
        return 0;
    }

    int perThousand(int ofArea) {
        unknown(ofArea < 0 || ofArea > 9);
        untold(people[ofArea] == 0);
        return 1000 * asked(from, to, kind, ofArea).size() / people[ofArea];
    }

    int rank(int ofArea) {
        unknown(ofArea < 0 || ofArea > 9);
        int rank = 1;
        for (int other = 0; other < 10; other++) {
            rank += asked(from, to, kind, other).size() > asked(from, to, kind, ofArea).size() ? 1 : 0;
        }
        return rank;
    }

    int least(int n) {
        range(n < 1 || n > 100);
        least = n;
        return 0;
    }

    int shown(int ofArea) {
        unknown(ofArea < 0 || ofArea > 9);
        return joinedAreas().contains(ofArea) ? -1 : asked(from, to, NONE, ofArea).size();
    }

    int joined() {
        Set<Integer> areas = joinedAreas();
        return areas.isEmpty() ? 0 : together(areas);
    }

    int work(int station, int what) {
        unknown(station < 0 || station > 5 || what < 0 || what > 1);
        int answer = 0;
        for (Row row : asked(from, to, NONE, NONE)) {
            if (row.station == station) {
                answer += what == 0 ? 1 : Math.max(row.turnOut, 0) + Math.max(row.travel, 0);
            }
        }
        return answer;
    }

    private List<Row> asked(int first, int last, int askedKind, int askedArea) {
        return rows.stream().filter(row -> !row.isHidden && row.day >= first && row.day <= last
                && (askedKind == NONE || askedKind == row.kind)
                && (askedArea == NONE || askedArea == row.area)).toList();
    }

    private boolean isWithout(Row row) {
        return !row.hasBoth() || markOfDay[row.day] == NONE;
    }

    private boolean isWithin(Row row) {
        return !isWithout(row) && row.turnOut + row.travel <= markOfDay[row.day];
    }

    private int[] shareOf(int first, int last) {
        int[] share = new int[2];
        for (Row row : asked(first, last, kind, area)) {
            share[0] += isWithin(row) ? 1 : 0;
            share[1] += isWithout(row) ? 0 : 1;
        }
        untold(share[1] == 0);
        return share;
    }

    private static int[] lowest(int[] fraction) {
        for (int divisor = fraction[1]; divisor > 1; divisor--) {
            if (fraction[0] % divisor == 0 && fraction[1] % divisor == 0) {
                return new int[] {fraction[0] / divisor, fraction[1] / divisor};
            }
        }
        return fraction;
    }

    private static int sumOf(int[] counts) {
        int sum = 0;
        for (int later = 1; later < counts.length; later++) {
            for (int earlier = 0; earlier < later; earlier++) {
                sum += Integer.signum(counts[later] - counts[earlier]);
            }
        }
        return sum;
    }

    private static void permute(int[] counts, int done, int sum, int[] tail) {
        if (done == counts.length) {
            tail[0] += sumOf(counts) >= sum ? 1 : 0;
            tail[1]++;
            return;
        }
        for (int i = done; i < counts.length; i++) {
            swap(counts, done, i);
            permute(counts, done + 1, sum, tail);
            swap(counts, done, i);
        }
    }

    private static void swap(int[] counts, int a, int b) {
        int kept = counts[a];
        counts[a] = counts[b];
        counts[b] = kept;
    }

    private int together(Set<Integer> areas) {
        int number = 0;
        for (Row row : rows) {
            boolean inSpan = row.day >= from && row.day <= to;
            number += inSpan && (row.isHidden || areas.contains(row.area)) ? 1 : 0;
        }
        return number;
    }

    private Set<Integer> joinedAreas() {
        Set<Integer> areas = new HashSet<>();
        List<Integer> others = new ArrayList<>();
        for (int i = 0; i < 10; i++) {
            int size = asked(from, to, NONE, i).size();
            if (size > 0 && size < least) {
                areas.add(i);
            } else if (size > 0) {
                others.add(i);
            }
        }
        others.sort(Comparator.comparingInt(i -> asked(from, to, NONE, i).size()));
        while (!areas.isEmpty() && together(areas) < least && !others.isEmpty()) {
            areas.add(others.remove(0));
        }
        return areas;
    }

    private static void span(int first, int last) {
        range(first < 0 || last > 9999 || last < first);
    }

    private static void unknown(boolean refused) {
        if (refused) {
            throw new IllegalArgumentException();
        }
    }

    private static void range(boolean refused) {
        if (refused) {
            throw new IndexOutOfBoundsException();
        }
    }

    private static void room(boolean refused) {
        if (refused) {
            throw new UnsupportedOperationException();
        }
    }

    private static void untold(boolean refused) {
        if (refused) {
            throw new ArithmeticException();
        }
    }
}
