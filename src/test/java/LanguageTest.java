import java.io.IOException;
import java.nio.file.Files;
import java.nio.file.Path;
import java.util.Set;
import java.util.regex.Matcher;
import java.util.regex.Pattern;

/** What of LANGUAGE.md can be seen in the text of the class; the rest is for the reader. */
public final class LanguageTest {
  private static final String FORBIDDEN = "throw|throws|try|catch|finally|synchronized|assert|import|package"
      + "|protected|volatile|native|transient|strictfp|instanceof|extends|implements|var|record|yield"
      + "|String\\.format|Object|Random|Thread|hashCode|equals|toString";
  private static final Set<String> LIBRARY = Set.of("System.arraycopy", "Math.min", "Math.max", "Math.abs");
  private static final int MOST_LINES = 60;

  public static void main(String[] args) throws IOException {
    String path = System.getProperty("stretchspool.source", "src/main/java/StretchSpool.java");
    String source = Files.readString(Path.of(path));
    Due.holds("signs from 1 to 127 alone", source.chars().allMatch(c -> c >= 1 && c <= 127));
    String code = withoutTexts(source);
    none(code, "\\b(" + FORBIDDEN + ")\\b", "forbidden word");
    none(code, "->|::|@", "lambda, method reference or annotation");
    none(code, "static\\s*\\{", "static initialiser");
    none(code, "\\bwhile\\s*\\(\\s*true|for\\s*\\(\\s*;", "loop without a bound");
    none(code, "(?m)^\\s*(private )?static (?!final|class)[\\w\\[\\]]+ \\w+( =|;)", "static field that is not final");
    library(code);
    methods(code);
    comments(source);
    Due.end();
  }

  /** Ahead of which calls the document wants which comment: the next comment stands behind them. */
  private static void comments(String source) {
    String[] inOrder = {
      "// ---- settings", "setRule", "setLimit", "// ---- wires", "rewind", "cut", "splice", "close", "punch",
      "// ---- texts", "type", "clearText", "perform", "// ---- history", "undo", "keep", "restore",
      "// ---- what is told", "spool", "gap", "read", "errors", "bestWay", "errorsAfter", "safeRewinds", "event", "count"
    };
    int place = 0;
    for (String next : inOrder) {
      place = source.indexOf(next.startsWith("//") ? next : "public int " + next + "(", place);
      Due.holds(next + " stands in its order", place >= 0);
      place = Math.max(place, 0);
    }
  }

  private static String withoutTexts(String source) {
    return source.replaceAll("(?s)/\\*.*?\\*/", "").replaceAll("//[^\n]*", "")
        .replaceAll("\"[^\"\n]*\"", "TEXT").replaceAll("'[^'\n]+'", "0");
  }

  private static void none(String code, String pattern, String what) {
    Matcher matcher = Pattern.compile(pattern).matcher(code);
    while (matcher.find()) {
      Due.holds(what + ": " + matcher.group().trim(), false);
    }
    Due.holds(what, true);
  }

  private static void library(String code) {
    Matcher matcher = Pattern.compile("\\b(System|Math|Integer|Long|Arrays)\\.\\w+").matcher(code);
    while (matcher.find()) {
      Due.holds(matcher.group() + " is allowed", LIBRARY.contains(matcher.group()));
    }
  }

  /** A method begins at a line that ends with ") {" and stands as deep as members do. */
  private static void methods(String code) {
    String[] lines = code.split("\n");
    Pattern head = Pattern.compile("(  |    )(public |private |static |final |void |[\\w\\[\\]]+ )*\\w+\\([^;]*\\) \\{");
    int found = 0;
    for (int line = 0; line < lines.length; line++) {
      Matcher matcher = head.matcher(lines[line]);
      String start = lines[line].trim();
      if (matcher.matches() && !start.matches("(if|for|while|switch|else)\\b.*")) {
        found++;
        int end = line + 1;
        while (end < lines.length && !lines[end].equals(matcher.group(1) + "}")) {
          end++;
        }
        Due.holds(start + " is short", end - line < MOST_LINES);
        Due.holds(start + " takes few", start.split(",").length <= 7);
      }
    }
    Due.holds("methods were found", found > 60);
  }
}
