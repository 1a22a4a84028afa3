import java.io.IOException;
import java.nio.file.Files;
import java.nio.file.Path;
import java.util.ArrayList;
import java.util.Comparator;
import java.util.List;

/**
 * Tests that each stand for one boundary case of one sentence of the document. A wrong answer is printed with the
 * heading, the sentence and the case. At the end the document itself is looked at: each sentence must stand in it
 * under its heading, to the letter, and none under the Terms and the promises may be left without a test.
 */
final class Sentences {
    private static final Path DOCUMENT = Path.of("../shared/DOC.md");

    private record Tested(String heading, String sentence) { }

    private final Check check = new Check("BoundsTest");
    private final List<Tested> all = new ArrayList<>();
    private String name = "";
    private int asked = 1;

    /** Begins the test of one case of a sentence. */
    void test(String heading, String sentence, String boundary) {
        endTest();
        name = heading + " \"" + sentence + "\" (" + boundary + "): ";
        asked = 0;
        all.add(new Tested(heading, sentence));
    }

    void due(String call, long got, long want) {
        asked++;
        check.due(name + call, got, want);
    }

    private void endTest() {
        check.due(name + "is anything asked", Math.min(asked, 1), 1);
    }

    void end() throws IOException {
        endTest();
        System.out.println("BoundsTest: " + all.size() + " boundary cases");
        if (Files.exists(DOCUMENT)) holdAgainst(Files.readString(DOCUMENT));
        else System.out.println("BoundsTest: no " + DOCUMENT + ", so its sentences are not looked up");
        check.end();
    }

    private void holdAgainst(String document) {
        for (String section : document.split("(?m)^## ")) {
            int end = section.indexOf('\n');
            if (end < 0) continue;
            String heading = section.substring(0, end).trim();
            String text = section.substring(end).replaceAll("\\s+", " ");
            List<String> sentences = takeSentencesOf(heading);
            for (String sentence : sentences) {
                check.due("stands under " + heading + ": " + sentence, text.contains(sentence) ? 1 : 0, 1);
            }
            if (heading.equals("Terms") || heading.startsWith("Promise ")) checkThatAllAreTested(heading, text, sentences);
        }
        for (Tested left : all) check.due("is a heading: " + left.heading(), 0, 1);
    }

    private List<String> takeSentencesOf(String heading) {
        List<String> sentences = new ArrayList<>();
        for (Tested tested : all) {
            if (tested.heading().equals(heading)) sentences.add(tested.sentence());
        }
        all.removeIf(tested -> tested.heading().equals(heading));
        // The longest first, so that none is cut by one that stands within it.
        sentences.sort(Comparator.comparingInt(String::length).reversed());
        return sentences;
    }

    private void checkThatAllAreTested(String heading, String text, List<String> sentences) {
        // The fences go first: their marks would else be taken for those around a method's face.
        String left = text.replaceAll("```(text)?|=+ \\d", " ").replaceAll("`[^`]*`:", " ");
        for (String sentence : sentences) left = left.replace(sentence, " ");
        left = left.trim();
        check.due("letters without a test under " + heading + ": " + left, left.length(), 0);
    }
}
