import java.io.IOException;
import java.lang.reflect.Method;
import java.lang.reflect.Modifier;
import java.nio.file.Files;
import java.nio.file.Path;
import java.util.ArrayList;
import java.util.List;

/** README.md tells every call of the face, and its example is the one below, with these answers. */
public final class ReadmeTest {
    private static final Path README = Path.of("README.md");
    private static final Path THIS = Path.of("src/test/java/ReadmeTest.java");

    private static final Check CHECK = new Check();

    public static void main(String[] args) throws IOException {
        example();
        exampleIsTheReadmes();
        everyCallIsTold();
        CHECK.end("ReadmeTest");
    }

    private static void example() {
        // the example begins
        ShareStatistics statistics = new ShareStatistics();
        statistics.define(0, 480);                       // from day 0 on: within 480 seconds
        statistics.define(20, 360);                      // from day 20 on: within 360 seconds
        int first = statistics.row(12, 14, 0, 3, 1, 0);  // day, hour, kind, area, station, marks
        statistics.values(first, 70, 300);               // turn-out and travel seconds, -1: none
        int second = statistics.row(25, 9, 2, 3, 1, 1);  // a false alarm
        statistics.values(second, 60, 310);
        statistics.people(3, 1500);

        statistics.ask(0, 30, -1, 3);                    // days 0 to 30, any kind, area 3
        int falseAlarms = statistics.count(1);           // 1
        int upper = statistics.share(0);                 // 1 row within ..
        int lower = statistics.share(1);                 // .. of 2
        int median = statistics.placed(50);              // 370 seconds
        int splits = statistics.splits();                // 1: on day 20
        int compared = statistics.compare(0, 19);        // -1: less than on the days 0 to 19
        int rate = statistics.perThousand(3);            // 1: 2 rows, 1,500 people
        int shown = statistics.shown(3);                 // -1: joined, as it has less than 3 rows
        int joined = statistics.joined();                // 2
        int seconds = statistics.work(1, 1);             // 740
        // the example ends
        CHECK.equal("the first row", first, 0);
        CHECK.equal("the second row", second, 1);
        CHECK.equal("count(1)", falseAlarms, 1);
        CHECK.equal("share(0)", upper, 1);
        CHECK.equal("share(1)", lower, 2);
        CHECK.equal("placed(50)", median, 370);
        CHECK.equal("splits()", splits, 1);
        CHECK.equal("compare(0, 19)", compared, -1);
        CHECK.equal("perThousand(3)", rate, 1);
        CHECK.equal("shown(3)", shown, -1);
        CHECK.equal("joined()", joined, 2);
        CHECK.equal("work(1, 1)", seconds, 740);
    }

    private static void exampleIsTheReadmes() throws IOException {
        String told = between(README, "```java", "```");
        String tested = between(THIS, "// the example begins", "// the example ends");
        CHECK.equal("README's example", told, tested);
    }

    private static void everyCallIsTold() throws IOException {
        String readme = Files.readString(README);
        for (Method method : ShareStatistics.class.getDeclaredMethods()) {
            if (Modifier.isPublic(method.getModifiers())) {
                String call = "| `" + method.getName() + "(";
                CHECK.equal("README tells " + method.getName(), readme.contains(call) ? 1 : 0, 1);
            }
        }
    }

    private static String between(Path file, String begin, String end) throws IOException {
        List<String> lines = new ArrayList<>();
        boolean inside = false;
        for (String line : Files.readAllLines(file)) {
            String text = line.strip();
            if (inside && text.equals(end)) {
                break;
            }
            if (inside) {
                lines.add(text);
            }
            inside = inside || text.equals(begin);
        }
        return String.join("\n", lines);
    }
}
