import java.io.IOException;
import java.io.UncheckedIOException;
import java.nio.file.Files;
import java.nio.file.Path;
import java.util.BitSet;
import java.util.LinkedHashMap;
import java.util.Map;

/** The document's sections, and which of their sentences a test was of. */
final class Doc {
  private static final Path FILE = Path.of("../shared/DOC.md");
  private static final Map<String, String> PROMISES = new LinkedHashMap<>();
  private static final Map<String, String> SECTIONS = read();
  private static final Map<String, BitSet> NAMED = new LinkedHashMap<>();

  private Doc() {}

  private static Map<String, String> read() {
    Map<String, String> sections = new LinkedHashMap<>();
    try {
      for (String part : Files.readString(FILE).split("(?m)^## ")) {
        int end = part.indexOf('\n');
        String heading = part.substring(0, end).replaceAll("^(Promise \\d+):.*", "$1");
        PROMISES.put(part.substring(0, end).replaceAll("^Promise \\d+: ", ""), heading);
        sections.put(heading, plain(part.substring(end)));
      }
    } catch (IOException e) {
      throw new UncheckedIOException(e);
    }
    return sections;
  }

  /** A section in one line: without the marks of blocks, the numbers of terms, the method's own line. */
  private static String plain(String section) {
    String t = section.replaceAll("(?m)^```.*$", "").replaceAll("(?m)^\\d+\\. ", "");
    return t.replaceAll("\\s+", " ").trim().replaceAll("^`[^`]*`: ", "");
  }

  /** The promise that a call is of, told by its heading. */
  static String promiseOf(String call) { return PROMISES.getOrDefault(call.replaceAll("\\(.*", ""), "a call of no promise"); }

  /** Whether the section says so; it is marked as what a test was of. */
  static boolean says(String heading, String sentence) {
    String section = SECTIONS.getOrDefault(heading, "");
    int at = section.indexOf(sentence);
    if (at < 0) return false;
    BitSet named = NAMED.computeIfAbsent(heading, h -> new BitSet());
    int fresh = at;
    // a sentence that stands there twice is named twice
    while (fresh >= 0 && named.get(fresh)) fresh = section.indexOf(sentence, fresh + 1);
    int from = fresh < 0 ? at : fresh;
    named.set(from, from + sentence.length());
    return true;
  }

  /** The words of a section that no test was of; none if it is empty. */
  static String left(String heading) {
    String section = SECTIONS.getOrDefault(heading, heading + " stands nowhere");
    BitSet named = NAMED.getOrDefault(heading, new BitSet());
    StringBuilder words = new StringBuilder();
    for (int i = 0; i < section.length(); i++) words.append(named.get(i) ? '~' : section.charAt(i));
    String left = words.toString().replaceAll("~+", "~");
    return left.matches(".*[A-Za-z0-9].*") ? left : "";
  }
}
