import java.io.IOException;
import java.nio.file.Files;
import java.nio.file.Path;
import java.util.LinkedHashMap;
import java.util.List;
import java.util.Map;

/**
 * Each sentence of the document's terms and promises is held by a test that names it by Due.sentence: the
 * tests that ran before this one left what they named in a file. What is named must stand in the document
 * under its heading, and no words of it may be left.
 */
public final class SentencesTest {
  /** What no call can show: which comments stand in the source. LanguageTest looks for them. */
  private static final String COMMENTS = "Ahead of the calls";

  private final Map<String, String> sections = new LinkedHashMap<>();
  private final Map<String, boolean[]> held = new LinkedHashMap<>();

  public static void main(String[] args) throws IOException {
    Path document = Path.of(System.getProperty("stretchspool.doc", "../shared/DOC.md"));
    Path named = Path.of(System.getProperty("stretchspool.sentences", "sentences.txt"));
    SentencesTest test = new SentencesTest();
    test.readDocument(Files.readAllLines(document));
    for (String line : Files.readAllLines(named)) {
      test.hold(line.substring(0, line.indexOf('\t')), line.substring(line.indexOf('\t') + 1));
    }
    test.nothingIsLeft();
    Due.end();
  }

  private void readDocument(List<String> lines) {
    String heading = "";
    for (String line : lines) {
      if (line.startsWith("## Promise ")) {
        heading = line.substring(3, line.indexOf(':'));
      } else if (line.startsWith("## ")) {
        heading = "";
      } else if (line.matches("[A-Z][A-Z, ]+")) {
        heading = line;
      } else if (!heading.isEmpty() && !line.startsWith(COMMENTS)) {
        String words = line.replaceFirst("^`(int \\w+|StretchSpool)\\([^`]*\\)`: ", "");
        sections.merge(heading, words.strip(), (before, more) -> (before + " " + more).strip());
      }
    }
    Due.is("headings of terms and promises", sections.size(), 8 + 23);
    for (Map.Entry<String, String> section : sections.entrySet()) {
      held.put(section.getKey(), new boolean[section.getValue().length()]);
    }
  }

  private void hold(String heading, String words) {
    String section = sections.get(heading);
    int place = section == null ? -1 : section.indexOf(words);
    Due.holds("the document says under " + heading + ": " + words, place >= 0);
    while (place >= 0) {
      for (int sign = place; sign < place + words.length(); sign++) {
        held.get(heading)[sign] = true;
      }
      place = section.indexOf(words, place + 1);
    }
  }

  private void nothingIsLeft() {
    for (Map.Entry<String, String> section : sections.entrySet()) {
      boolean[] marks = held.get(section.getKey());
      StringBuilder left = new StringBuilder();
      for (int sign = 0; sign < marks.length; sign++) {
        left.append(marks[sign] ? '\n' : section.getValue().charAt(sign));
      }
      for (String words : left.toString().split("\n")) {
        Due.holds("a test holds, under " + section.getKey() + ": " + words, !words.matches(".*\\w.*"));
      }
    }
  }
}
