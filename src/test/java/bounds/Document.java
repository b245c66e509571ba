import java.io.IOException;
import java.nio.charset.StandardCharsets;
import java.nio.file.Files;
import java.nio.file.Path;
import java.util.ArrayList;
import java.util.BitSet;
import java.util.LinkedHashMap;
import java.util.List;
import java.util.Map;

/** The document's parts by their headings, and which of their words have been quoted. */
final class Document {
  private static final Path PLACE = Path.of("../shared/DOC.md");
  private final Map<String, String> parts = new LinkedHashMap<>();
  private final Map<String, BitSet> quoted = new LinkedHashMap<>();

  static Document read() {
    try {
      return new Document(Files.readString(PLACE, StandardCharsets.UTF_8));
    } catch (IOException missing) {
      System.out.println("the document is not at " + PLACE.toAbsolutePath() + ": its words are not looked up");
      return new Document("");
    }
  }

  private Document(String text) {
    for (String piece : text.split("(?m)^## ")) {
      int line = piece.indexOf('\n');
      if (line > 0) {
        String name = piece.substring(0, line).replaceFirst(":.*", "").trim();
        parts.put(name, plain(piece.substring(line)));
        quoted.put(name, new BitSet());
      }
    }
  }

  /** One blank between words, without the marks of code and of parts and, in a promise, without the method's face. */
  private static String plain(String text) {
    String bare = text.replaceFirst("(?s)^\\s*`[^`]+`:", "").replaceAll("```\\w*", " ").replaceAll("==== [IV]+\\.", " ");
    return bare.replaceAll("\\s+", " ").trim();
  }

  /** False if that part has no such words. */
  boolean quote(String part, String words) {
    if (parts.isEmpty()) {
      return true;
    }
    String text = parts.getOrDefault(part, "");
    int from = text.indexOf(words);
    if (from < 0) {
      return false;
    }
    quoted.get(part).set(from, from + words.length());
    return true;
  }

  /** What stands in the terms and in the promises without a test that quotes it. */
  List<String> unquoted() {
    List<String> rests = new ArrayList<>();
    for (String part : parts.keySet()) {
      if (part.equals("Terms") || part.startsWith("Promise ")) {
        addRests(part, rests);
      }
    }
    return rests;
  }

  private void addRests(String part, List<String> rests) {
    String text = parts.get(part);
    BitSet bits = quoted.get(part);
    for (int from = bits.nextClearBit(0); from < text.length(); ) {
      int next = bits.nextSetBit(from);
      int to = next < 0 ? text.length() : next;
      String rest = text.substring(from, to);
      if (rest.matches(".*[A-Za-z0-9].*")) {
        rests.add(part + ": " + rest.trim());
      }
      from = bits.nextClearBit(to);
    }
  }
}
