import java.io.IOException;
import java.lang.reflect.Field;
import java.lang.reflect.Method;
import java.lang.reflect.Modifier;
import java.nio.charset.StandardCharsets;
import java.nio.file.Files;
import java.nio.file.Path;
import java.util.List;
import java.util.regex.Matcher;
import java.util.regex.Pattern;

/** Rules of LANGUAGE.md that can be seen from the text of the class; .ci/run starts it in the project's folder. */
public final class LanguageTest {
    private static final Expect EXPECT = new Expect("LanguageTest");
    private static final List<String> THROWN =
        List.of("IllegalStateException", "IllegalArgumentException", "IndexOutOfBoundsException");

    public static void main(String[] args) throws IOException {
        String whole = Files.readString(Path.of("src/main/java/CreditLinks.java"), StandardCharsets.UTF_8);
        String code = whole.replaceAll("(?s)/\\*.*?\\*/", "").replaceAll("//[^\n]*", "");
        hasNone(code, "a package line (head)", "\\bpackage\\b");
        hasNone(code, "a lambda or an arrow (2)", "->");
        hasNone(code, "a method reference (2)", "::");
        hasNone(code, "try, catch, finally (6)", "\\b(try|catch|finally)\\b");
        hasNone(code, "synchronized, assert (6)", "\\b(synchronized|assert|volatile)\\b");
        hasNone(code, "a function ending in Exact (4)", "Exact\\b");
        hasNone(code, "equals, hashCode, toString (6)", "\\b(equals|hashCode|toString)\\s*\\(");
        hasNone(code, "joined texts (10)", "\"\\s*\\+|\\+\\s*\"");
        hasNone(code, "while, whose end cannot be seen (9)", "\\bwhile\\b");
        hasNone(code, "signs beyond 127 (4)", "[^\\x00-\\x7f]");
        onlyThese(code, "import\\s+([\\w.*]+)", List.of("java.util.ArrayList"));
        onlyThese(code, "throw\\s+new\\s+(\\w+)\\(\"[^\"]+\"\\)", THROWN);
        EXPECT.same("throws in the plain form", count(code, "\\bthrow\\b"),
            count(code, "throw\\s+new\\s+\\w+\\(\"[^\"]+\"\\)"));
        EXPECT.same("static fields that are final", count(code, "static (?!final)[\\w\\[\\]]+ \\w+( =|;|,)"), 0);
        EXPECT.yes("at most twelve classes (11)", count(code, "\\bclass\\s+\\w+") <= 12);
        sizes(CreditLinks.class);
        for (Class<?> inside : CreditLinks.class.getDeclaredClasses()) {
            sizes(inside);
        }
        EXPECT.finish();
    }

    private static void sizes(Class<?> one) {
        int fields = 0;
        for (Field field : one.getDeclaredFields()) {
            boolean constant = Modifier.isStatic(field.getModifiers());
            EXPECT.yes(field + " is static and not final (5)", !constant || Modifier.isFinal(field.getModifiers()));
            fields += constant ? 0 : 1;
        }
        EXPECT.yes(one.getName() + " has at most twenty fields (11)", fields <= 20);
        for (Method method : one.getDeclaredMethods()) {
            EXPECT.yes(method + " takes at most seven parameters (11)", method.getParameterCount() <= 7);
        }
    }

    private static void hasNone(String code, String what, String pattern) {
        Matcher matcher = Pattern.compile(pattern).matcher(code);
        boolean found = matcher.find();
        EXPECT.yes(what + " stands in the class: " + (found ? matcher.group() : ""), !found);
    }

    private static void onlyThese(String code, String pattern, List<String> due) {
        Matcher matcher = Pattern.compile(pattern).matcher(code);
        while (matcher.find()) {
            EXPECT.yes(matcher.group() + " is not among " + due, due.contains(matcher.group(1)));
        }
    }

    private static int count(String code, String pattern) {
        int found = 0;
        Matcher matcher = Pattern.compile(pattern).matcher(code);
        while (matcher.find()) {
            found++;
        }
        return found;
    }
}
