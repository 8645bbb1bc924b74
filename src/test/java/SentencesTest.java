import java.io.IOException;
import java.lang.reflect.Method;
import java.lang.reflect.Modifier;
import java.nio.file.Files;
import java.nio.file.Path;
import java.util.Arrays;
import java.util.List;
import java.util.regex.Matcher;
import java.util.regex.Pattern;
import java.util.stream.Stream;

/**
 * Each sentence of a test stands in the document under its heading, and what the document says of
 * exceptions and boundaries stands in the sentence of a test.
 */
public final class SentencesTest {
    private static final Path DOCUMENT = Path.of("../shared/DOC.md");
    private static final List<Class<?>> TESTS = List.of(
        TermsTest.class, DaysTest.class, ActsTest.class, LooksTest.class, AheadTest.class, RefusalsTest.class);
    private static final Pattern BOUNDARY = Pattern.compile(
        "Throws `|exception|at most|at least|at first|or more|or less|less than|\\(0\\)|-1|\\b\\d to \\d+"
        + "|remainder|of several|if there are none|wraps around|cut|is lost|there are \\d+|lies there|nothing");

    public static void main(String[] args) throws IOException {
        everyTestHasASentence();
        if (!Files.isReadable(DOCUMENT)) {
            System.out.println("  there is no " + DOCUMENT + " here: the sentences are not looked up in it");
        } else {
            lookUpAll(inOneLine(Files.readString(DOCUMENT)));
        }
        Check.end("SentencesTest");
    }

    private static String inOneLine(String text) {
        return text.replaceAll("\\s+", " ");
    }

    private static void everyTestHasASentence() {
        for (Class<?> tests : TESTS) {
            for (Method method : tests.getDeclaredMethods()) {
                boolean looksLikeATest = Modifier.isPrivate(method.getModifiers()) && !method.isSynthetic()
                    && method.getReturnType() == void.class && method.getParameterCount() == 0;
                boolean isATest = method.isAnnotationPresent(Sentence.class);
                Check.isTrue(method + " has a sentence, if it is a test", looksLikeATest == isATest);
            }
        }
    }

    private static void lookUpAll(String document) {
        List<String> parts = List.of(document.split("(?=## )"));
        lookUpIn("What it is", partOf(parts, "What it is"));
        lookUpIn("Terms", partOf(parts, "Terms"));
        long lookedUp = sentencesUnder("What it is").count() + sentencesUnder("Terms").count();
        for (int promise = 1; promise <= 20; promise++) {
            String heading = "Promise " + promise;
            lookUpIn(heading, partOf(parts, heading + ":"));
            lookedUp += sentencesUnder(heading).count();
            Check.isTrue("a test of " + heading, sentencesUnder(heading).count() > 0);
        }
        Check.due("the sentences that were looked up", lookedUp, sentences().count());
    }

    private static String partOf(List<String> parts, String heading) {
        return parts.stream().filter(part -> part.startsWith("## " + heading)).findFirst().orElse("");
    }

    private static Stream<Sentence> sentences() {
        return TESTS.stream().flatMap(tests -> Arrays.stream(tests.getDeclaredMethods()))
            .map(method -> method.getAnnotation(Sentence.class)).filter(sentence -> sentence != null);
    }

    private static Stream<Sentence> sentencesUnder(String heading) {
        return sentences().filter(sentence -> sentence.under().equals(heading));
    }

    private static void lookUpIn(String heading, String part) {
        boolean[] isQuoted = new boolean[part.length()];
        sentencesUnder(heading).forEach(sentence -> {
            String words = inOneLine(sentence.words());
            int at = part.indexOf(words);
            Check.isTrue("\"" + words + "\" in the document under " + heading, at >= 0);
            if (at >= 0) {
                Arrays.fill(isQuoted, at, at + words.length(), true);
            }
        });
        Matcher boundary = BOUNDARY.matcher(part);
        while (boundary.find()) {
            int from = Math.max(0, boundary.start() - 40);
            int to = Math.min(part.length(), boundary.end() + 40);
            Check.isTrue("a test under " + heading + " for \".." + part.substring(from, to) + "..\"",
                isQuoted[boundary.start()] && isQuoted[boundary.end() - 1]);
        }
    }
}
