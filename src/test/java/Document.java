import java.io.IOException;
import java.nio.file.Files;
import java.nio.file.Path;
import java.util.ArrayList;
import java.util.BitSet;
import java.util.List;
import java.util.regex.Matcher;
import java.util.regex.Pattern;

/** The words of DOC.md, and which of these some test has quoted. */
final class Document {
  static final int PROMISES = 55;

  /** Place 0 is "Terms", the others are the promises, without what stands between backticks at their head. */
  private final String[] texts = new String[PROMISES + 1];
  private final BitSet[] quoted = new BitSet[PROMISES + 1];

  private Document(String text) {
    texts[0] = plain(between(text, "## Terms", "Ahead of the calls"));
    for (int i = 1; i <= PROMISES; i++) {
      String next = i < PROMISES ? "## Promise " + (i + 1) + ":" : "## Not promised";
      String section = between(text, "## Promise " + i + ":", next);
      texts[i] = plain(section.substring(section.indexOf("`: ") + 3));
    }
    for (int i = 0; i <= PROMISES; i++) quoted[i] = new BitSet();
  }

  static Document read() {
    String path = System.getenv("RAINCOVER_DOCUMENT");
    try {
      return new Document(Files.readString(Path.of(path == null ? "../shared/DOC.md" : path)));
    } catch (IOException e) {
      throw new IllegalStateException("the document cannot be read", e);
    }
  }

  private static String between(String text, String from, String to) {
    int start = text.indexOf(from) + from.length();
    return text.substring(start, text.indexOf(to, start));
  }

  private static String plain(String text) {
    return text.replace("```text", "").replace("```", "").replace("&lt;", "<").replace("&gt;", ">")
        .replaceAll("==== [0-9] ", " ").replaceAll("\\s+", " ").trim();
  }

  /** Marks words of a promise, or of the terms that it is read with; false if they do not stand there. */
  boolean quote(int promise, String words) {
    return mark(promise, words) || mark(0, words);
  }

  private boolean mark(int section, String words) {
    boolean found = false;
    for (int at = texts[section].indexOf(words); at >= 0; at = texts[section].indexOf(words, at + 1)) {
      quoted[section].set(at, at + words.length());
      found = true;
    }
    return found;
  }

  /** The stretches that hold a word, but that no test has quoted. */
  List<String> unquoted() {
    List<String> left = new ArrayList<>();
    for (int section = 0; section <= PROMISES; section++) {
      StringBuilder rest = new StringBuilder(texts[section]);
      for (int at = 0; at < rest.length(); at++) if (quoted[section].get(at)) rest.setCharAt(at, '\n');
      Matcher m = Pattern.compile("[^\n]*[A-Za-z0-9][^\n]*").matcher(rest);
      while (m.find()) left.add((section == 0 ? "terms" : "promise " + section) + ": " + m.group().trim());
    }
    return left;
  }
}
