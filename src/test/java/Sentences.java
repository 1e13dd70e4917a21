import java.io.IOException;
import java.nio.file.Files;
import java.nio.file.Path;
import java.util.ArrayList;
import java.util.HashSet;
import java.util.List;
import java.util.Set;

/**
 * The document's sentences, each with a test of its own: told are the part of the document in which the sentence
 * stands (the heading, as far as a colon) and its words, or so many of them that it can be found by them.
 */
final class Sentences {
    private static final Path DOCUMENT = Path.of("../shared/DOC.md");

    interface Test {
        void hold(Due due);
    }

    private record One(String part, String words, Test test) {
        String name() {
            return part + ": " + words;
        }
    }

    private final List<One> all = new ArrayList<>();

    void of(String part, String words, Test test) {
        all.add(new One(part, words, test));
    }

    /** Those of all classes of sentences. */
    static Sentences ofTheDocument() {
        Sentences s = new Sentences();
        TermsSentencesTest.tell(s);
        RowsSentencesTest.tell(s);
        StepsSentencesTest.tell(s);
        DrivesSentencesTest.tell(s);
        WallsSentencesTest.tell(s);
        ToldSentencesTest.tell(s);
        return s;
    }

    List<String> names() {
        return all.stream().map(One::name).toList();
    }

    /** How many answers of the test of one sentence are not as due. */
    int wrongOf(String name) {
        int wrong = 0;
        for (One one : all) if (one.name().equals(name)) wrong += wrongOf(one);
        return wrong;
    }

    private static int wrongOf(One one) {
        Due due = new Due(one.name());
        one.test.hold(due);
        return due.wrong();
    }

    /** Runs the tests of all sentences, each of which must stand in the document (if that is there) as it is told here. */
    void run(String test) throws IOException {
        boolean isThere = Files.exists(DOCUMENT);
        String document = isThere ? Files.readString(DOCUMENT) : "";
        Set<String> names = new HashSet<>();
        int wrong = 0;
        for (One one : all) {
            if (!names.add(one.name())) wrong += told(one, "stands here twice");
            if (isThere && !part(document, one.part).contains(one.words)) wrong += told(one, "does not stand in the document");
            wrong += wrongOf(one);
        }
        System.out.println(test + ": " + all.size() + " sentences, " + wrong + " answers not as due");
        if (wrong != 0) System.exit(1);
    }

    private static int told(One one, String what) {
        System.out.println("«" + one.name() + "» " + what);
        return 1;
    }

    /** What stands under the heading of a part, as far as the next heading. */
    private static String part(String document, String name) {
        for (String part : ("\n" + document).split("\n## ")) {
            String heading = part.lines().findFirst().orElse("");
            if (heading.equals(name) || heading.startsWith(name + ":")) return part.substring(heading.length());
        }
        return "";
    }
}
