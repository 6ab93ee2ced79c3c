import java.io.IOException;
import java.nio.file.Files;
import java.nio.file.Path;
import java.util.ArrayList;
import java.util.LinkedHashMap;
import java.util.List;
import java.util.Map;
import java.util.function.Supplier;

/**
 * What the tests of boundary cases share: each of them first names the promise and the sentence of the document that it
 * is about. At the end it is looked up that the document has these sentences, and that none of it was passed over.
 */
final class Bound {
    private static final Path DOCUMENT = Path.of("../shared/DOC.md");
    // By section ("section 3", "promise 9"): the parts of sentences that tests have named.
    private static final Map<String, List<String>> NAMED = new LinkedHashMap<>();
    private static int checksBefore = 0;

    interface Call {
        void on(Chipcardhouse house, int number);
    }

    private Bound() {
    }

    /** The checks behind this are about a sentence of the Terms, by which a promise is kept. */
    static void term(int section, int promise, String sentence) {
        name("section " + section, "promise " + promise + ", section " + section, sentence);
    }

    /** The checks behind this are about a sentence that stands under the heading of a promise. */
    static void promise(int number, String sentence) {
        name("promise " + number, "promise " + number, sentence);
    }

    private static void name(String section, String where, String sentence) {
        endSentence();
        NAMED.computeIfAbsent(section, s -> new ArrayList<>()).add(sentence);
        Check.about = where + ", '" + sentence + "': ";
    }

    private static void endSentence() {
        if (!Check.about.isEmpty() && Check.checks == checksBefore) {
            Check.due("is named and not checked", true, false);
        }
        checksBefore = Check.checks;
    }

    // ---- ranges

    /** The least and the greatest number are allowed; those beside them and the ends of int are refused. */
    static void range(int least, int most, Class<? extends RuntimeException> kind, Supplier<Chipcardhouse> fresh,
            Call call) {
        allowed(least, fresh, call);
        allowed(most, fresh, call);
        for (int wrong : new int[] {least - 1, most + 1, Integer.MIN_VALUE, Integer.MAX_VALUE}) {
            Chipcardhouse house = fresh.get();
            Check.refused("the number " + wrong, house, kind, () -> call.on(house, wrong));
        }
    }

    static void rangeOfArgument(int least, int most, Supplier<Chipcardhouse> fresh, Call call) {
        range(least, most, IllegalArgumentException.class, fresh, call);
    }

    /** There are so many of them, numbered from 0. */
    static void exist(int many, Supplier<Chipcardhouse> fresh, Call call) {
        range(0, many - 1, IndexOutOfBoundsException.class, fresh, call);
    }

    /** There is none of them: not even the number 0. */
    static void noneExists(Supplier<Chipcardhouse> fresh, Call call) {
        for (int wrong : new int[] {0, -1, 1, Integer.MIN_VALUE, Integer.MAX_VALUE}) {
            Chipcardhouse house = fresh.get();
            Check.none("the number " + wrong, house, () -> call.on(house, wrong));
        }
    }

    private static void allowed(int number, Supplier<Chipcardhouse> fresh, Call call) {
        Chipcardhouse house = fresh.get();
        try {
            call.on(house, number);
            Check.due("the number " + number + " is allowed", true, true);
        } catch (RuntimeException e) {
            Check.due("the number " + number + " throws " + e + "; that it is allowed", false, true);
        }
    }

    // ---- whether all was named

    /** Each sentence is named by a test, or is one of those without a boundary; each name is a part of a sentence. */
    static void lookForAll(Map<String, List<String>> withoutBoundary) {
        endSentence();
        Check.about = "the document: ";
        Map<String, List<String>> sentences = sentences();
        lookThatTheyStand(sentences, NAMED);
        lookThatTheyStand(sentences, withoutBoundary);
        for (String section : sentences.keySet()) {
            for (String sentence : sentences.get(section)) {
                boolean isNamed = hasPartOf(sentence, NAMED.get(section));
                boolean isWithout = hasPartOf(sentence, withoutBoundary.get(section));
                Check.due(section + ", '" + sentence + "' is named", isNamed || isWithout, true);
                Check.due(section + ", '" + sentence + "' is named and said to be without", isNamed && isWithout, false);
            }
        }
        Check.about = "";
    }

    private static void lookThatTheyStand(Map<String, List<String>> sentences, Map<String, List<String>> named) {
        for (String section : named.keySet()) {
            List<String> all = sentences.getOrDefault(section, List.of());
            for (String part : named.get(section)) {
                boolean stands = all.stream().anyMatch(sentence -> sentence.contains(part));
                Check.due("'" + part + "' stands in " + section, stands, true);
            }
        }
    }

    private static boolean hasPartOf(String sentence, List<String> parts) {
        return parts != null && parts.stream().anyMatch(sentence::contains);
    }

    private static Map<String, List<String>> sentences() {
        Map<String, List<String>> all = new LinkedHashMap<>();
        String section = "section 0";
        for (String line : lines()) {
            if (line.startsWith("## Not promised")) {
                break;
            }
            if (line.startsWith("## Promise")) {
                section = "promise " + line.substring(11, line.indexOf(':'));
            } else if (line.startsWith("==== ")) {
                section = "section " + line.substring(5, line.indexOf('.'));
            } else if (isOfSentences(line)) {
                List<String> here = all.computeIfAbsent(section, s -> new ArrayList<>());
                here.addAll(List.of(line.trim().split("(?<=[.]) +(?=[A-Z(])")));
            }
        }
        return all;
    }

    private static boolean isOfSentences(String line) {
        boolean isOfFace = line.startsWith("import") || line.startsWith("public final class") || line.startsWith("}")
                || line.startsWith("    public");
        return !line.isBlank() && !line.startsWith("#") && !line.startsWith("```") && !isOfFace;
    }

    private static List<String> lines() {
        try {
            return Files.readAllLines(DOCUMENT);
        } catch (IOException e) {
            Check.due("the document is read: " + e, false, true);
            return List.of();
        }
    }
}
