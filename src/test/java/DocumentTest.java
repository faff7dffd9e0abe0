import java.lang.reflect.Method;
import java.nio.file.Files;
import java.nio.file.Path;
import java.util.Arrays;
import java.util.LinkedHashMap;
import java.util.List;
import java.util.Map;

/**
 * Looks whether the tests quote the document as it stands, and whether each of its words from the Terms
 * to promise 21 is quoted by a test: so no sentence is without one.
 */
public final class DocumentTest {
    private static final Path DOCUMENT = Path.of("../shared/DOC.md");
    private static final List<Class<?>> TESTS = List.of(TermsTest.class, TickTest.class, ChangesTest.class,
        AskingTest.class, PadTest.class, HistoryTest.class);
    /** What has no sentence that could be broken, or is looked at by LanguageTest. */
    private static final List<String> WITHOUT_TESTS = List.of("HalfTickets", "What it is", "The public face", "Not promised");

    private static int wrong = 0;

    private static void wrong(String what) {
        wrong++;
        System.out.println(what);
    }

    /** The text under each heading, with the heading up to its colon. */
    private static Map<String, String> sections(String document) {
        Map<String, String> sections = new LinkedHashMap<>();
        String heading = "";
        for (String line : document.split("\n")) {
            if (line.startsWith("#")) {
                heading = line.replaceFirst("#+ ", "").replaceFirst(":.*", "");
            } else {
                sections.merge(heading, line, (above, below) -> above + "\n" + below);
            }
        }
        sections.replaceAll((name, text) -> withoutSignature(text).replaceAll("\\s+", " "));
        return sections;
    }

    private static String withoutSignature(String text) {
        return text.replaceFirst("^\\s*`[^`]*\\([^`]*\\)`: ", "");
    }

    private static void cover(String section, boolean[] isQuoted, String words) {
        int from = section.indexOf(words);
        while (from >= 0) {
            Arrays.fill(isQuoted, from, from + words.length(), true);
            from = section.indexOf(words, from + 1);
        }
    }

    private static String unquoted(String section, boolean[] isQuoted) {
        StringBuilder left = new StringBuilder();
        for (int index = 0; index < isQuoted.length; index++) {
            left.append(isQuoted[index] ? ' ' : section.charAt(index));
        }
        return left.toString().replaceAll("\\s+", " ").trim();
    }

    public static void main(String[] args) throws Exception {
        Map<String, String> sections = sections(Files.readString(DOCUMENT));
        Map<String, boolean[]> quoted = new LinkedHashMap<>();
        sections.forEach((name, text) -> quoted.put(name, new boolean[text.length()]));
        int tests = 0;
        for (Class<?> test : TESTS) {
            for (Method method : test.getDeclaredMethods()) {
                Sentence sentence = method.getAnnotation(Sentence.class);
                if (sentence == null) {
                    continue;
                }
                tests++;
                String section = sections.getOrDefault(sentence.in(), "");
                if (!section.contains(sentence.says())) {
                    wrong(test.getName() + "." + method.getName() + ": does not stand in " + sentence.in()
                        + ": " + sentence.says());
                } else {
                    cover(section, quoted.get(sentence.in()), sentence.says());
                }
            }
        }
        sections.forEach((name, text) -> {
            String left = unquoted(text, quoted.get(name));
            if (!WITHOUT_TESTS.contains(name) && left.matches(".*[A-Za-z0-9].*")) {
                wrong("no test quotes, in " + name + ": " + left);
            }
        });
        System.out.println("DocumentTest: " + tests + " tests quote the document, " + wrong + " wrong or missing quotes");
        if (wrong != 0 || tests == 0) {
            System.exit(1);
        }
    }
}
