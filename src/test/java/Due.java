import java.io.IOException;
import java.nio.file.Files;
import java.nio.file.Path;

/** Compares answers with those due, by sentences of the document; ends a test with exit code 1 if one is wrong. */
final class Due {
    private static final Path DOCUMENT = Path.of("../shared/DOC.md");

    private static String document;
    private static String sentence = "";
    private static int askedBefore = 0;
    private static int asked = 0;
    private static int wrong = 0;

    private Due() { }

    /** Names the sentence, or the part of one, that the answers behind this call are asked for. */
    static void sentence(String words) {
        endSentence();
        sentence = words;
        askedBefore = asked;
        if (!document().isEmpty() && !document().contains(words)) {
            wrong++;
            System.out.println("the document does not say: " + words);
        }
    }

    static void is(String what, long got, long want) {
        asked++;
        if (got != want) {
            wrong++;
            if (wrong <= 50) {
                System.out.println("[" + sentence + "] " + what + " answered " + got + ", due is " + want);
            }
        }
    }

    /** What item answers, with its exceptions as numbers that no row can hold. */
    static final long NULL_THROWN = 1L << 40, INDEX_THROWN = 1L << 41;

    static long item(MarkedRuns m, int row, int i) {
        try {
            return m.item(row, i);
        } catch (NullPointerException e) {
            return NULL_THROWN;
        } catch (ArrayIndexOutOfBoundsException e) {
            return INDEX_THROWN;
        }
    }

    static void end() {
        endSentence();
        System.out.println(asked + " answers, " + wrong + " wrong");
        if (wrong != 0 || asked == 0) {
            System.exit(1);
        }
    }

    /** A sentence that nothing was asked for would seem tested and not be. */
    private static void endSentence() {
        if (!sentence.isEmpty() && asked == askedBefore) {
            wrong++;
            System.out.println("nothing was asked for: " + sentence);
        }
    }

    /** The document in one line, or nothing where it is not at hand. */
    private static String document() {
        if (document == null) {
            try {
                document = Files.readString(DOCUMENT).replaceAll("\\s+", " ");
            } catch (IOException e) {
                document = "";
            }
        }
        return document;
    }
}
