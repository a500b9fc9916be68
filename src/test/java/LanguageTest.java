import java.nio.charset.StandardCharsets;
import java.nio.file.Files;
import java.nio.file.Path;
import java.util.Set;
import java.util.regex.Matcher;
import java.util.regex.Pattern;

/** What of ../shared/LANGUAGE.md a look at the text of the class can tell. */
public final class LanguageTest {
    private static final Check CHECK = new Check();
    private static final String[] NOWHERE = {
        "->", "::", "\\bcatch\\b", "\\btry\\b", "\\bfinally\\b", "\\bsynchronized\\b", "\\bassert\\b", "\\bpackage\\b",
        "\\bprotected\\b", "\\binstanceof\\b", "\\bvar\\b", "\\bequals\\b", "\\bhashCode\\b", "\\btoString\\b",
        "\\bstatic\\s*\\{", "\\bNaN\\b", "\\bfloat\\b", "\\bObject\\b", "Exact\\b", "\\bSystem\\.(?!arraycopy)",
        "[^\\x00-\\x7f]", "\\bwhile\\s*\\(\\s*true", "for\\s*\\(\\s*;",
        "\\b(Integer|Long)\\.[A-Z]",
    };
    private static final Set<String> IMPORTS = Set.of("java.util.NoSuchElementException", "java.util.ArrayList",
            "java.util.List", "java.util.Arrays", "java.util.Iterator");
    private static final Set<String> EXCEPTIONS = Set.of("IllegalStateException", "IllegalArgumentException",
            "IndexOutOfBoundsException", "ArithmeticException", "UnsupportedOperationException",
            "NoSuchElementException", "RuntimeException");

    public static void main(String[] args) throws Exception {
        Path path = Path.of("src/main/java/WaterExchange.java");
        String whole = new String(Files.readAllBytes(path), StandardCharsets.UTF_8);
        String code = whole.replaceAll("(?s)/\\*.*?\\*/", "").replaceAll("//[^\n]*", "");
        String bare = code.replaceAll("\"[^\"\n]*\"", "\"\"");
        for (String pattern : NOWHERE) {
            Matcher m = Pattern.compile(pattern).matcher(bare);
            CHECK.fails("language: " + pattern, m.find());
        }
        imports(bare);
        exceptions(code);
        staticFields(bare);
        arrayCopies(bare);
        sizes(bare);
        CHECK.end();
    }

    private static void imports(String code) {
        Matcher m = Pattern.compile("import ([\\w.*]+);").matcher(code);
        while (m.find()) {
            CHECK.holds("4: import " + m.group(1), IMPORTS.contains(m.group(1)));
        }
    }

    private static void exceptions(String code) {
        Matcher m = Pattern.compile("\\bthrow\\b([^;]*);").matcher(code);
        while (m.find()) {
            Matcher form = Pattern.compile(" new (\\w+)\\((\"[^\"]*\")?\\)").matcher(m.group(1));
            CHECK.holds("6: throw" + m.group(1), form.matches() && EXCEPTIONS.contains(form.group(1)));
        }
    }

    private static void staticFields(String code) {
        Matcher m = Pattern.compile("\\bstatic\\b[^;{(]*[;=]").matcher(code);
        while (m.find()) {
            CHECK.holds("5: " + m.group(), m.group().matches("(?s)static final (int|long|boolean|char|String)(\\[\\])? .*"));
        }
    }

    // Rule 4 can be read so that System.arraycopy, too, is for arrays of numbers alone.
    private static void arrayCopies(String code) {
        Matcher arrays = Pattern.compile("\\b[A-Z]\\w*\\[\\] (\\w+);").matcher(code);
        int found = 0;
        while (arrays.find()) {
            found++;
            Matcher copy = Pattern.compile("System\\.arraycopy\\([^;]*\\b" + arrays.group(1) + "\\b").matcher(code);
            CHECK.fails("4: System.arraycopy of " + arrays.group(1), copy.find());
        }
        CHECK.holds("4: arrays of objects were found", found > 0);
    }

    // Rule 11, by the lines' indents: a method of the class stands at 4, one of a class inside it at 8.
    private static void sizes(String code) {
        Pattern head = Pattern.compile("^( {4}| {8})(?:[\\w\\[\\]]+ )*(\\w+)\\(([^();]*)[^;]*");
        Set<String> noMethods = Set.of("if", "for", "while", "switch", "return");
        String indent = "";
        String name = "";
        int start = 0;
        int number = 0;
        int methods = 0;
        int classes = 0;
        for (String line : code.split("\n")) {
            number++;
            if (line.matches(".*\\b(class|interface|enum|record) \\w+.*")) {
                classes++;
            }
            Matcher m = head.matcher(line);
            if (name.isEmpty() && m.matches() && !noMethods.contains(m.group(2))) {
                indent = m.group(1);
                name = m.group(2);
                start = number;
                methods++;
                CHECK.holds("11: parameters of " + name, m.group(3).split(",").length <= 7);
            }
            if (!name.isEmpty() && line.equals(indent + "}")) {
                CHECK.holds("11: lines of " + name, number - start < 60);
                name = "";
            }
        }
        CHECK.holds("11: methods were found", methods > 100);
        CHECK.holds("11: classes", classes >= 1 && classes <= 12);
    }
}
