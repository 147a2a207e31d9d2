import java.io.IOException;
import java.nio.charset.StandardCharsets;
import java.nio.file.Files;
import java.nio.file.Path;
import java.util.HashSet;
import java.util.Map;
import java.util.Set;
import java.util.TreeMap;
import java.util.function.Consumer;
import java.util.function.Supplier;
import java.util.regex.Pattern;

/** Tests of single sentences of the document, each told by its promise (0 for the Terms) and its words. */
final class Sentences {
    static final int TERMS = 0;
    private static final Path DOCUMENT = Path.of("..", "shared", "DOC.md");
    private static final Pattern EDGE = Pattern.compile("\\d to \\d|from 0|'[a-z]'");
    private static final Map<Integer, String> SECTIONS = new TreeMap<>();
    private static final Set<String> TESTED = new HashSet<>();

    private Sentences() {
    }

    static void holds(int promise, String words, Runnable test) {
        String what = (promise == TERMS ? "Terms" : "promise " + promise) + ", \"" + words + "\"";
        TESTED.add(promise + " " + words);
        Check.same(what + " stands in the document", oneLine(sectionOf(promise)).contains(words), true);
        Check.during(what, test);
    }

    /**
     * The call is refused on one object; another one, made the same way, shows what the refused call must
     * leave as it was.
     */
    static void refused(Supplier<Mailmerge> maker, Class<? extends RuntimeException> due, Consumer<Mailmerge> call) {
        Mailmerge asked = maker.get();
        Check.refuses("the call", due, () -> call.accept(asked));
        Check.same("what the refused call leaves", Trace.of(asked), Trace.of(maker.get()));
    }

    /** Numbers just outside a range, far outside it, and those that a cut to 16 bits would bring inside. */
    static int[] outside(int low, int high) {
        return new int[] {low - 1, high + 1, Integer.MIN_VALUE, Integer.MAX_VALUE, low + 65536, high - 65536};
    }

    /** Numbers that are no index of a row. */
    static int[] noIndex(int size) {
        return outside(0, size - 1);
    }

    /** Each exception and each parameter with an edge, of these promises, must have a test of its own. */
    static void end(String test, int from, int to) {
        for (int promise = from; promise <= to; promise++) {
            for (String line : sectionOf(promise).split("\n")) {
                if (line.startsWith("Throws ") || line.startsWith("- `") && EDGE.matcher(line).find()) {
                    Check.same("a test of promise " + promise + ", \"" + line + "\"",
                            TESTED.contains(promise + " " + line), true);
                }
            }
        }
        Check.end(test);
    }

    private static String sectionOf(int promise) {
        if (SECTIONS.isEmpty()) {
            readSections();
        }
        return SECTIONS.getOrDefault(promise, "");
    }

    private static void readSections() {
        try {
            for (String section : Files.readString(DOCUMENT, StandardCharsets.UTF_8).split("(?m)^## ")) {
                if (section.startsWith("Terms")) {
                    SECTIONS.put(TERMS, section);
                } else if (section.startsWith("Promise ")) {
                    SECTIONS.put(Integer.parseInt(section.substring(8, section.indexOf(':'))), section);
                }
            }
        } catch (IOException failure) {
            throw new IllegalStateException("the document can't be read", failure);
        }
    }

    private static String oneLine(String text) {
        return text.replaceAll("\\s+", " ");
    }
}
