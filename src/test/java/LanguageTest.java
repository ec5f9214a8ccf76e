import java.io.IOException;
import java.lang.reflect.Modifier;
import java.nio.file.Files;
import java.nio.file.Path;
import java.util.Set;
import java.util.TreeSet;
import java.util.regex.Matcher;
import java.util.regex.Pattern;

/** What can be seen of LANGUAGE.md's rules in the text of the class. Runs in the project's directory. */
public final class LanguageTest {
    private static final Check CHECK = new Check("LanguageTest");
    private static final Set<String> LIBRARY = Set.of("Math.min", "Math.max", "Arrays.fill", "System.arraycopy");
    private static final String[] RULED_OUT = {"try", "catch", "finally", "throw", "throws", "synchronized", "assert",
        "volatile", "native", "double", "float", "protected", "instanceof", "super", "Object", "Integer", "Long"};

    public static void main(String[] args) throws IOException {
        String text = Files.readString(Path.of("src/main/java/ActChains.java"));
        String code = text.replaceAll("(?s)/\\*.*?\\*/", "").replaceAll("//[^\n]*", "");
        checkImports(code);
        checkWords(code);
        checkLibrary(code.replaceAll("import[^\n]*", ""));
        checkStaticFields(code);
        checkMethods(code);
        checkClasses();
        CHECK.end();
    }

    /** Rules 3 and 4. */
    private static void checkImports(String code) {
        Matcher imports = Pattern.compile("import ([^;]*);").matcher(code);
        while (imports.find()) {
            CHECK.yes("import " + imports.group(1), imports.group(1).equals("java.util.Arrays"));
        }
        CHECK.no("a package line", code.contains("package "));
    }

    /** Rules 2, 3, 4 and 6. */
    private static void checkWords(String code) {
        for (String word : RULED_OUT) {
            CHECK.no("the word " + word, Pattern.compile("\\b" + word + "\\b").matcher(code).find());
        }
        for (String sign : new String[] {"->", "::", "Exact(", "@", "\""}) {
            CHECK.no("the sign " + sign, code.contains(sign));
        }
        CHECK.yes("characters 0 to 255 alone", code.chars().allMatch(c -> c < 256));
    }

    /** Rule 4: whatever is called by a class's name is of the library that the rule lists. */
    private static void checkLibrary(String code) {
        Set<String> used = new TreeSet<>();
        Matcher names = Pattern.compile("\\b([A-Z][a-z]\\w*\\.\\w+)").matcher(code);
        while (names.find()) {
            used.add(names.group(1));
        }
        CHECK.yes("of the library " + used, LIBRARY.containsAll(used));
    }

    /** Rule 5. */
    private static void checkStaticFields(String code) {
        Matcher fields = Pattern.compile("(?m)^.*\\bstatic\\b[^(\n]*=.*$").matcher(code);
        while (fields.find()) {
            String line = fields.group().strip();
            CHECK.yes(line, line.matches("(public|private) static final (int|long|boolean|char|String) [A-Z_]+ = .*;"));
        }
        CHECK.no("a static initialiser block", Pattern.compile("static\\s*\\{").matcher(code).find());
    }

    /** Rule 11: at most seven parameters, some sixty lines. */
    private static void checkMethods(String code) {
        Matcher methods = Pattern.compile("(?m)^( +)(?:[\\w\\[\\]]+ )*\\w+\\(([^()]*)\\) \\{$").matcher(code);
        int seen = 0;
        while (methods.find()) {
            int end = code.indexOf("\n" + methods.group(1) + "}", methods.end());
            long lines = code.substring(methods.start(), end).lines().count();
            CHECK.yes(methods.group().strip() + " of " + lines + " lines", lines <= 60);
            CHECK.yes(methods.group().strip(), methods.group(2).split(",").length <= 7);
            seen++;
        }
        CHECK.yes("methods seen, " + seen, seen >= 23);
    }

    /** Rules 1, 2 and 11. */
    private static void checkClasses() {
        Class<?>[] inside = ActChains.class.getDeclaredClasses();
        CHECK.yes("classes, " + inside.length, inside.length < 12);
        for (Class<?> one : inside) {
            int is = one.getModifiers();
            CHECK.yes(one.getName() + " is static", Modifier.isStatic(is));
            CHECK.no(one.getName() + " is seen from outside", Modifier.isPublic(is) || Modifier.isProtected(is));
            CHECK.yes(one.getName() + " has few fields", one.getDeclaredFields().length <= 20);
        }
    }
}
