import java.io.IOException;
import java.lang.reflect.Method;
import java.nio.file.Files;
import java.nio.file.Path;
import java.util.ArrayList;
import java.util.LinkedHashMap;
import java.util.List;
import java.util.Map;

/**
 * Makes the tests of single sentences, and compares their words with DOC.md: each has to stand there, and each sentence
 * that names what the class does has to have a test.
 */
public final class SentenceTest {
    private static final Path DOC = Path.of("../shared/DOC.md");
    /** Sentences that say nothing that a call could show, or that a list of others goes on with. */
    private static final List<String> NOT_TESTED = List.of(
        "A simulator of handovers", "Mobiles move over a plane;", "cells have a limited number", "Levels are measured and",
        "The simulator also analyses", "what later calls answer is free.", "In the grammars terminals",
        "The ranges of numbers are given", "Error codes.", "Examples (each result", "The constants", "The constructor and the",
        "- `NONE", "- `HIDDEN", "How the state is held", "Use of one object", "Nothing is promised beyond");

    public static void main(String[] args) throws IOException {
        Check check = new Check();
        List<Method> tests = Sentences.all();
        for (Method test : tests) {
            check.is(Sentences.nameOf(test), Sentences.wrongIn(test), 0);
        }
        if (Files.exists(DOC)) {
            compare(check, tests, sections(Files.readString(DOC)));
        } else {
            System.out.println("no " + DOC + ": the words are not compared");
        }
        check.end();
    }

    private static void compare(Check check, List<Method> tests, Map<String, String> sections) {
        Map<String, boolean[]> said = new LinkedHashMap<>();
        sections.forEach((heading, text) -> said.put(heading, new boolean[text.length()]));
        for (Method test : tests) {
            Says says = test.getAnnotation(Says.class);
            String heading = headingOf(says.at(), sections);
            String text = sections.getOrDefault(heading, "");
            for (String words : says.value()) {
                int at = text.indexOf(words);
                check.holds(Sentences.nameOf(test) + ": not said in \"" + says.at() + "\": " + words, at >= 0);
                for (int i = Math.max(0, at); at >= 0 && i < at + words.length(); i++) {
                    said.get(heading)[i] = true;
                }
            }
        }
        sections.forEach((heading, text) -> {
            for (int[] place : sentences(text)) {
                String sentence = text.substring(place[0], place[1]);
                check.holds("no test in \"" + heading + "\" for: " + sentence,
                        isSaid(said.get(heading), place) || isLeftOut(sentence));
            }
        });
    }

    private static String headingOf(String beginning, Map<String, String> sections) {
        for (String heading : sections.keySet()) {
            if (heading.equals(beginning) || heading.startsWith(beginning + ":")) {
                return heading;
            }
        }
        return "";
    }

    private static boolean isSaid(boolean[] said, int[] place) {
        int count = 0;
        for (int i = place[0]; i < place[1]; i++) {
            count += said[i] ? 1 : 0;
        }
        return 10 * count >= 9 * (place[1] - place[0]);
    }

    private static boolean isLeftOut(String sentence) {
        for (String beginning : NOT_TESTED) {
            if (sentence.startsWith(beginning)) {
                return true;
            }
        }
        // The signatures of the promises are for FaceTest.
        return sentence.startsWith("`");
    }

    /** The text below each heading, with single spaces; without the code, and the examples, which ExampleTest reads. */
    private static Map<String, String> sections(String doc) {
        Map<String, String> sections = new LinkedHashMap<>();
        String withoutCode = doc.replaceAll("(?s)```.*?```", "").replaceAll("(?s)Example 1:.*?(?=The constants)", "");
        for (String part : withoutCode.split("(?m)^#+ ")) {
            int end = part.indexOf('\n');
            if (end >= 0) {
                String text = part.substring(end).replaceAll("\\s+", " ").trim();
                sections.put(part.substring(0, end).trim(), text);
            }
        }
        return sections;
    }

    /** From where to where each sentence goes; a part that ends with a semicolon counts as one. */
    private static List<int[]> sentences(String text) {
        List<int[]> sentences = new ArrayList<>();
        int from = 0;
        for (int i = 0; i < text.length(); i++) {
            boolean ends = (text.charAt(i) == '.' || text.charAt(i) == ';') && (i + 1 == text.length() || text.charAt(i + 1) == ' ');
            boolean isNumber = ends && i > 0 && Character.isDigit(text.charAt(i - 1)) && i - from <= 2;
            boolean lineEnds = text.startsWith(" Returns ", i) || text.startsWith(" Throws ", i) || text.startsWith(" - `", i)
                    || text.startsWith("` ", i) && text.startsWith("`", from);
            if (ends && !isNumber || lineEnds || i + 1 == text.length()) {
                if (text.substring(from, i + 1).trim().length() > 0) {
                    sentences.add(new int[] {skipBlank(text, from), i + 1});
                }
                from = i + 1;
            }
        }
        return sentences;
    }

    private static int skipBlank(String text, int from) {
        return from < text.length() && text.charAt(from) == ' ' ? from + 1 : from;
    }
}
