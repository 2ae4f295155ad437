import java.io.IOException;
import java.nio.file.Files;
import java.nio.file.Path;

/** Counts the answers of one test that are not the ones that are due. */
final class Checks {
    private static final Path DOCUMENT = Path.of("../shared/DOC.md");
    private int wrong = 0;
    private int asked = 0;
    private String sentence = "";
    private String document = null;

    /** From here on the answers are due by these words of the document, which must stand there just so. */
    void says(String words) {
        sentence = "'" + words + "': ";
        if (document == null) {
            document = readDocument();
        }
        if (!document.isEmpty()) {
            holds("these words stand in the document", document.contains(words));
        }
    }

    /** Empty where the document is not at hand: the answers are due all the same. */
    private static String readDocument() {
        try {
            return Files.exists(DOCUMENT) ? Files.readString(DOCUMENT).replaceAll("\\s+", " ") : "";
        } catch (IOException e) {
            return "";
        }
    }

    void due(String call, long got, long want) {
        asked++;
        if (got != want) {
            wrong++;
            System.out.println(sentence + call + " answered " + got + ", due is " + want);
        }
    }

    void holds(String what, boolean so) {
        asked++;
        if (!so) {
            wrong++;
            System.out.println(sentence + "not so: " + what);
        }
    }

    /** Writes a text into the object, eight bytes at a time; answers what the last write answered. */
    static int write(NorthWheel x, String text) {
        int answer = 0;
        for (int from = 0; from < text.length(); from += 8) {
            int n = Math.min(8, text.length() - from);
            long bytes = 0;
            for (int i = 0; i < n; i++) {
                bytes |= (long) (text.charAt(from + i) & 255) << 8 * i;
            }
            answer = x.write(bytes, n);
        }
        return answer;
    }

    void end() {
        System.out.println(wrong == 0 ? asked + " answers are as due" : wrong + " answers are not as due");
        if (wrong != 0) {
            System.exit(1);
        }
    }
}
