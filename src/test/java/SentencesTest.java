import java.io.IOException;
import java.nio.file.DirectoryStream;
import java.nio.file.Files;
import java.nio.file.Path;
import java.util.ArrayList;
import java.util.List;
import java.util.regex.Matcher;
import java.util.regex.Pattern;

/** Every promise of the document, and every part of its terms, is tested somewhere, once, sentence by sentence. */
public final class SentencesTest {
    private static final int PROMISES = 44;
    /** Those ahead of other calls are headings alone. */
    private static final List<String> AHEAD = List.of("about", "answers", "odds", "round", "worths");
    private static int wrong = 0;

    public static void main(String[] args) throws IOException {
        StringBuilder all = new StringBuilder();
        try (DirectoryStream<Path> files = Files.newDirectoryStream(Path.of("src/test/java"), "*Test.java")) {
            for (Path file : files) {
                all.append(Files.readString(file));
            }
        }
        List<String> promises = new ArrayList<>();
        for (int n = 1; n <= PROMISES; n++) {
            promises.add(Integer.toString(n));
        }
        must(named(all, "C\\.promise\\((\\d+)\\)"), promises, "promises");
        must(named(all, "C\\.ahead\\(\"(\\w+)\"\\)"), AHEAD, "what stands ahead of calls");
        must(named(all, "C\\.part\\(\"([\\w ]+)\""), List.of("terms", "what it is"), "other parts");
        Path document = Path.of("../shared/DOC.md");
        if (Files.isReadable(document)) {
            must(named(Files.readString(document), "\n## Promise (\\d+): "), promises, "promises of the document");
        }
        System.out.println("  " + wrong + " wrong");
        if (wrong != 0) {
            System.exit(1);
        }
    }

    private static List<String> named(CharSequence text, String pattern) {
        List<String> names = new ArrayList<>();
        Matcher m = Pattern.compile(pattern).matcher(text);
        while (m.find()) {
            names.add(m.group(1));
        }
        return names;
    }

    private static void must(List<String> seen, List<String> due, String what) {
        List<String> got = new ArrayList<>(seen);
        List<String> want = new ArrayList<>(due);
        got.sort(null);
        want.sort(null);
        if (!got.equals(want)) {
            wrong++;
            System.out.println("  " + what + ": " + got + ", due are " + want);
        }
    }
}
