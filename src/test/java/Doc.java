import java.io.IOException;
import java.lang.reflect.InvocationTargetException;
import java.lang.reflect.Method;
import java.lang.reflect.Modifier;
import java.nio.file.Files;
import java.nio.file.Path;
import java.util.ArrayList;
import java.util.Arrays;
import java.util.Comparator;
import java.util.List;
import java.util.Map;
import java.util.TreeMap;

/**
 * The document's sentences. What a test says it is about must stand in the document, word by word,
 * and each sentence of the sections below must be what some test is about.
 */
final class Doc {
    private static final Path PLACE = Path.of("../shared/DOC.md");
    private static final List<String> SECTIONS = new ArrayList<>(List.of("Terms", "Cranes",
            "Credits", "Permits", "Texts", "Changes and errors"));
    private static final Map<String, List<String>> SENTENCES = new TreeMap<>();
    private static final Map<String, List<String>> QUOTED = new TreeMap<>();
    private static int saidByTest = 0;

    private Doc() {
    }

    static void read() throws IOException {
        for (int promise = 1; promise <= 25; promise++) {
            SECTIONS.add("Promise " + promise);
        }
        String section = "";
        for (String line : Files.readAllLines(PLACE)) {
            if (line.startsWith("#")) {
                section = line.replaceFirst("^#+ ", "").replaceFirst("^(Promise \\d+):.*", "$1");
            } else if (!line.startsWith("Ahead of the calls")) {
                addSentences(section, line);
            }
        }
    }

    /** The parts of a line that end with . or ; less the marks of a list and a call's heading. */
    private static void addSentences(String section, String line) {
        String plain = line.replaceFirst("^- ", "").replaceFirst("^`[^`]*\\)`: ", "");
        boolean heading = line.equals(plain) && !plain.endsWith(".");
        if (plain.isBlank() || heading) {
            return;
        }
        List<String> sentences = SENTENCES.computeIfAbsent(section, s -> new ArrayList<>());
        sentences.addAll(Arrays.asList(plain.trim().split("(?<=[.;])\\s+")));
    }

    /** Names the sentence that the answers from here on are about. */
    static void says(String section, String words) {
        String all = String.join(" ", SENTENCES.getOrDefault(section, List.of()));
        Due.about("\"" + section + "\" says \"" + words + "\": ");
        Due.is("how often the document says this", all.contains(words) ? 1 : 0, 1);
        QUOTED.computeIfAbsent(section, s -> new ArrayList<>()).add(words);
        saidByTest++;
    }

    /** Runs each static method without arguments that isn't private, by names. */
    static void runTestsOf(Class<?> tests) throws IllegalAccessException {
        Method[] methods = tests.getDeclaredMethods();
        Arrays.sort(methods, Comparator.comparing(Method::getName));
        for (Method method : methods) {
            int shape = method.getModifiers();
            if (!Modifier.isPrivate(shape) && !method.isSynthetic()
                    && method.getParameterCount() == 0) {
                runTest(method);
            }
        }
    }

    private static void runTest(Method method) throws IllegalAccessException {
        saidByTest = 0;
        Due.about("");
        try {
            method.invoke(null);
        } catch (InvocationTargetException e) {
            e.getCause().printStackTrace(System.out);
            Due.is("what " + method + " has thrown", 1, 0);
        }
        Due.is("whether " + method + " is about a sentence", saidByTest > 0 ? 1 : 0, 1);
        Due.about("");
    }

    static void eachSentenceIsTested() {
        int sentences = 0;
        for (String section : SECTIONS) {
            List<String> said = SENTENCES.getOrDefault(section, List.of());
            Due.is("whether there is a section " + section, said.isEmpty() ? 0 : 1, 1);
            for (String sentence : said) {
                sentences++;
                Due.is("whether a test is about \"" + sentence + "\" of " + section,
                        isQuoted(section, sentence) ? 1 : 0, 1);
            }
        }
        System.out.println(sentences + " sentences of the document are tested");
    }

    private static boolean isQuoted(String section, String sentence) {
        return QUOTED.getOrDefault(section, List.of()).stream()
                .anyMatch(words -> words.contains(sentence) || sentence.contains(words));
    }
}
