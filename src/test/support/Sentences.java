import java.io.IOException;
import java.nio.file.Files;
import java.nio.file.Path;
import java.util.ArrayList;
import java.util.HashSet;
import java.util.LinkedHashMap;
import java.util.List;
import java.util.Map;
import java.util.Set;

/** Tests of single sentences of the document: each is told by its chapter and by the words that it tests. */
final class Sentences {
    private static final Path DOCUMENT = Path.of("../shared/DOC.md");
    private static final int SHOWN_OF_ONE = 5;

    private record Sentence(String chapter, String words, Runnable test) {
    }

    private static int wrongOfOne = 0;
    private static String current = "";

    private final List<Sentence> all = new ArrayList<>();
    private final Set<String> told = new HashSet<>();
    private String chapter = "";
    private int wrong = 0;

    /** Told by a test for each answer that is not the one that is due. */
    static void wrong(String what) {
        wrongOfOne++;
        if (wrongOfOne <= SHOWN_OF_ONE) {
            System.out.println(current + ": " + what);
        }
    }

    void chapter(String title) {
        chapter = title;
    }

    void test(String words, Runnable test) {
        if (!told.add(chapter + "|" + words)) {
            throw new AssertionError("told twice: " + chapter + ", " + words);
        }
        all.add(new Sentence(chapter, words, test));
    }

    private void run(Sentence sentence) {
        current = sentence.chapter + ", \"" + sentence.words + "\"";
        wrongOfOne = 0;
        try {
            sentence.test.run();
        } catch (RuntimeException thrown) {
            wrong("threw " + thrown);
        }
        if (wrongOfOne > 0) {
            wrong++;
            System.out.println("BROKEN: " + current + " (" + wrongOfOne + " answers)");
        }
    }

    /** Runs all, and ends the program with 1 if one is broken. */
    void runAll() throws IOException {
        for (Sentence sentence : all) {
            run(sentence);
        }
        if (Files.exists(DOCUMENT)) {
            compareWith(chaptersOf(Files.readAllLines(DOCUMENT)));
        } else {
            System.out.println("there is no " + DOCUMENT + ": the words were not compared with it");
        }
        System.out.println(wrong == 0 ? all.size() + " sentences hold" : wrong + " sentences are broken");
        if (wrong != 0) {
            System.exit(1);
        }
    }

    private static Map<String, List<String>> chaptersOf(List<String> lines) {
        Map<String, List<String>> chapters = new LinkedHashMap<>();
        List<String> chapter = new ArrayList<>();
        for (String line : lines) {
            if (line.startsWith("## ") || line.startsWith("== ")) {
                chapter = new ArrayList<>();
                chapters.put(line.substring(3).split(":")[0].trim(), chapter);
            }
            chapter.add(line);
        }
        return chapters;
    }

    // So no test stands for words that the document does not say, and no exception of it is left out.
    private void compareWith(Map<String, List<String>> chapters) {
        for (Sentence sentence : all) {
            String text = String.join("\n", chapters.getOrDefault(sentence.chapter, List.of()));
            if (!text.contains(sentence.words)) {
                wrong++;
                System.out.println("not in the document: " + sentence.chapter + ", \"" + sentence.words + "\"");
            }
        }
        for (Map.Entry<String, List<String>> entry : chapters.entrySet()) {
            for (String line : entry.getValue()) {
                if (needsTest(entry.getKey(), line) && !hasTest(entry.getKey(), line)) {
                    wrong++;
                    System.out.println("without a test: " + entry.getKey() + ", \"" + line + "\"");
                }
            }
        }
    }

    private boolean needsTest(String title, String line) {
        boolean isOurs = all.stream().anyMatch(sentence -> sentence.chapter.equals(title));
        return isOurs && title.startsWith("Promise") && (line.startsWith("Throws") || line.startsWith("Returns"));
    }

    private boolean hasTest(String title, String line) {
        return all.stream().anyMatch(sentence -> sentence.chapter.equals(title) && line.contains(sentence.words));
    }
}
