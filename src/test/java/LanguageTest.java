import java.io.IOException;
import java.lang.reflect.Field;
import java.lang.reflect.Method;
import java.lang.reflect.Modifier;
import java.nio.file.Files;
import java.nio.file.Path;
import java.util.ArrayList;
import java.util.List;
import java.util.regex.Matcher;
import java.util.regex.Pattern;

/** Those rules of LANGUAGE.md that a text or a class file can tell, and "All memory is rows made once". */
public final class LanguageTest {
    private static final Path SOURCE = Path.of("src/main/java/ShareStatistics.java");
    /** "try" is fine by the rules in some places, but nothing here needs it, and it could hide the machine's throws. */
    private static final String[] RULED_OUT = {
        "\\bpackage\\b", "\\bimport\\b", "->", "::", "\\btry\\b", "\\bcatch\\b", "\\bfinally\\b",
        "\\bsynchronized\\b", "\\bassert\\b", "\\bstatic\\s*\\{", "Exact\\b", "\\bThread\\b",
    };
    private static final String REFUSALS =
            "IllegalArgumentException|IndexOutOfBoundsException|UnsupportedOperationException|ArithmeticException";

    private static final Check CHECK = new Check();

    public static void main(String[] args) throws IOException {
        String source = withoutComments(Files.readString(SOURCE));
        for (String pattern : RULED_OUT) {
            CHECK.equal("places with " + pattern, places(source, pattern), 0);
        }
        everyThrowIsARefusal(source);
        allElseIsMadeInConstructors(source);
        libraryIsTheListed(source);
        for (Class<?> one : classes()) {
            membersAreFew(one);
            staticFieldsAreConstants(one);
        }
        CHECK.equal("at most twelve classes", classes().size() <= 12 ? 1 : 0, 1);
        CHECK.end("LanguageTest");
    }

    private static List<Class<?>> classes() {
        List<Class<?>> all = new ArrayList<>();
        all.add(ShareStatistics.class);
        for (Class<?> inside : ShareStatistics.class.getDeclaredClasses()) {
            all.add(inside);
            CHECK.equal(inside + " is static", Modifier.isStatic(inside.getModifiers()) ? 1 : 0, 1);
            CHECK.equal(inside + " is public", Modifier.isPublic(inside.getModifiers()) ? 1 : 0, 0);
        }
        return all;
    }

    /** Rule 6. */
    private static void everyThrowIsARefusal(String source) {
        int refusals = places(source, "\\bthrow new (" + REFUSALS + ")\\(\"[^\"]*\"\\);");
        CHECK.equal("throws of the document's refusals", refusals, places(source, "\\bthrow\\b"));
    }

    /** "All memory is rows made once": beside the constructor and the fields only refusals are made. */
    private static void allElseIsMadeInConstructors(String source) {
        int inFields = places(source, "(?m)^ {8}private final \\w+\\[\\] \\w+ = new \\w+\\[\\w+\\];$");
        int inConstructor = places(constructor(source), "\\bnew\\b");
        int refusals = places(source, "\\bthrow new\\b");
        CHECK.equal("what is made", places(source, "\\bnew\\b"), inFields + inConstructor + refusals);
    }

    private static String constructor(String source) {
        int begin = source.indexOf("public ShareStatistics() {");
        int end = begin < 0 ? -1 : source.indexOf("\n    }", begin);
        return end < 0 ? "" : source.substring(begin, end);
    }

    /** Rule 4: of the library these two functions are all that the class needs. */
    private static void libraryIsTheListed(String source) {
        Matcher call = Pattern.compile("\\b([A-Z][a-z]\\w*)\\.(\\w+)\\(").matcher(source);
        while (call.find()) {
            String name = call.group(1) + "." + call.group(2);
            CHECK.equal("the library's " + name, name.matches("Integer\\.compare|Math\\.min") ? 1 : 0, 1);
        }
    }

    /** Rule 11. */
    private static void membersAreFew(Class<?> one) {
        for (Method method : one.getDeclaredMethods()) {
            CHECK.equal(method + " has at most seven parameters", method.getParameterCount() <= 7 ? 1 : 0, 1);
        }
        int fields = 0;
        for (Field field : one.getDeclaredFields()) {
            fields += Modifier.isStatic(field.getModifiers()) ? 0 : 1;
        }
        CHECK.equal(one + " has at most twenty fields", fields <= 20 ? 1 : 0, 1);
    }

    /** Rule 5. */
    private static void staticFieldsAreConstants(Class<?> one) {
        for (Field field : one.getDeclaredFields()) {
            if (Modifier.isStatic(field.getModifiers())) {
                boolean isConstant = Modifier.isFinal(field.getModifiers()) && field.getType() == int.class;
                CHECK.equal(field + " is a constant", isConstant ? 1 : 0, 1);
            }
        }
    }

    private static int places(String text, String pattern) {
        return (int) Pattern.compile(pattern).matcher(text).results().count();
    }

    private static String withoutComments(String source) {
        return source.replaceAll("(?s)/\\*.*?\\*/", "").replaceAll("//[^\n]*", "");
    }
}
