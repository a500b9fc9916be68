import java.io.IOException;
import java.nio.charset.StandardCharsets;
import java.nio.file.Files;
import java.nio.file.Path;
import java.util.LinkedHashMap;
import java.util.LinkedHashSet;
import java.util.Map;
import java.util.Set;

/**
 * Checks that stand under sentences of ../shared/DOC.md. A sentence is quoted word for word in front of its checks:
 * one that the document does not have in that place, or under which nothing is asked, counts as wrong.
 */
final class Boundary {
    private static final int PROMISES = 58;

    private final Check check = new Check();
    private final Map<String, String> sections = new LinkedHashMap<>();
    private final Map<String, String> unquoted = new LinkedHashMap<>();
    private final Set<String> quotes = new LinkedHashSet<>();
    private final Set<Integer> promises = new LinkedHashSet<>();
    private String quote = "";
    private int asked;

    Boundary(Path document) throws IOException {
        // Without the document the answers can still be checked, but not that the quotes are its words.
        if (!Files.exists(document)) {
            System.out.println("there is no " + document + ": the quotes are not checked");
            return;
        }
        String text = new String(Files.readAllBytes(document), StandardCharsets.UTF_8);
        for (String section : text.split("\n## ")) {
            int end = section.indexOf('\n');
            String name = section.substring(0, end).replaceAll(":.*", "").trim();
            sections.put(name, plain(section.substring(end)));
        }
        unquoted.putAll(sections);
    }

    private static String plain(String text) {
        return text.replace("`", "").replaceAll("\\s+", " ");
    }

    // ---- sentences

    void promise(int number, String words) {
        promises.add(number);
        open("Promise " + number, words);
    }

    void terms(String words) {
        open("Terms", words);
    }

    void whatItIs(String words) {
        open("What it is", words);
    }

    private void open(String section, String words) {
        close();
        quote = section + " <" + words + ">";
        String text = sections.getOrDefault(section, "");
        check.holds("the document has " + quote, sections.isEmpty() || text.contains(plain(words)));
        check.holds("quoted once " + quote, quotes.add(quote));
        unquoted.put(section, unquoted.getOrDefault(section, "").replace(plain(words), "|"));
        asked = 0;
    }

    private void close() {
        if (!quote.isEmpty()) {
            check.holds("something is asked under " + quote, asked > 0);
        }
    }

    // ---- what is asked under a sentence

    private String told(String what) {
        asked++;
        return quote + " " + what;
    }

    void same(String what, long got, long due) {
        check.same(told(what), got, due);
    }

    void same(String what, double got, double due) {
        check.same(told(what), got, due);
    }

    void same(String what, String got, String due) {
        check.same(told(what), got, due);
    }

    void holds(String what, boolean got) {
        check.holds(told(what), got);
    }

    void fails(String what, boolean got) {
        check.fails(told(what), got);
    }

    void noNumber(String what, Runnable call) {
        check.refuses(told(what), IndexOutOfBoundsException.class, call);
    }

    void noElement(String what, Runnable call) {
        check.refuses(told(what), java.util.NoSuchElementException.class, call);
    }

    void noArgument(String what, Runnable call) {
        check.refuses(told(what), IllegalArgumentException.class, call);
    }

    void noState(String what, Runnable call) {
        check.refuses(told(what), IllegalStateException.class, call);
    }

    // ---- the end

    void end() {
        close();
        for (int promise = 1; promise <= PROMISES; promise++) {
            check.holds("a sentence of promise " + promise, promises.contains(promise));
        }
        System.out.println(quotes.size() + " sentences");
        check.end();
    }

    /** For the eye: what of the document no test has quoted. */
    void tellUnquoted() {
        for (Map.Entry<String, String> section : unquoted.entrySet()) {
            System.out.println("## " + section.getKey() + ": " + section.getValue());
        }
    }
}
