import java.io.IOException;
import java.nio.file.Files;
import java.nio.file.Path;

/** The document's words, a section at a time; what tests claim to test is marked in it. */
final class Document {
    private static final Path PLACE = Path.of("../shared/DOC.md");
    private final String all;
    private String name = "";
    private String words = "";
    private boolean[] claimed = new boolean[0];

    Document() {
        String read = "";
        try {
            read = Files.readString(PLACE);
        } catch (IOException missing) {
            System.out.println("  " + PLACE + " can't be read: its words are not looked up");
        }
        all = read;
    }

    void openPromise(int n) {
        open("promise " + n, behind(between("\n## Promise " + n + ": ", "\n## "), "`: "));
    }

    /** What stands between two marks. */
    void openPart(String ofName, String from, String to) {
        open(ofName, between(from, to));
    }

    /** What the interface says ahead of the group that begins with a call. */
    void openAhead(String call) {
        open("ahead of " + call, behind(between("\nAhead of the calls `" + call + "`", "\n"), "says: "));
    }

    private String between(String from, String to) {
        int start = all.indexOf(from);
        if (start < 0) {
            return "";
        }
        int end = all.indexOf(to, start + from.length());
        return all.substring(start + from.length(), end < 0 ? all.length() : end);
    }

    private static String behind(String text, String mark) {
        int at = text.indexOf(mark);
        return at < 0 ? "" : text.substring(at + mark.length());
    }

    private void open(String itsName, String text) {
        name = itsName;
        words = plain(text.replaceAll("```\\w*|=====+ \\d|---- \\d+", " "));
        claimed = new boolean[words.length()];
    }

    private static String plain(String text) {
        return text.replaceAll("\\s+", " ").strip();
    }

    boolean isThere() {
        return !all.isEmpty();
    }

    boolean isOpen() {
        return !words.isEmpty();
    }

    String name() {
        return name;
    }

    /** Marks words of the open section that are not claimed yet; false if there are none such. */
    boolean claim(String some) {
        for (int at = words.indexOf(some); at >= 0; at = words.indexOf(some, at + 1)) {
            boolean isFree = false;
            for (int k = at; k < at + some.length(); k++) {
                isFree |= !claimed[k];
            }
            if (isFree) {
                java.util.Arrays.fill(claimed, at, at + some.length(), true);
                return true;
            }
        }
        return false;
    }

    /** The words of the open section that nothing has claimed. */
    String unclaimed() {
        StringBuilder left = new StringBuilder();
        for (int k = 0; k < claimed.length; k++) {
            left.append(claimed[k] || !Character.isLetterOrDigit(words.charAt(k)) ? ' ' : words.charAt(k));
        }
        return plain(left.toString());
    }
}
