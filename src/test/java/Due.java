import java.io.IOException;
import java.io.UncheckedIOException;
import java.nio.file.Files;
import java.nio.file.Path;
import java.nio.file.StandardOpenOption;
import java.util.LinkedHashSet;
import java.util.Set;

/** Compares answers with those that are due, and types texts. */
final class Due {
  private static int asked = 0;
  private static int wrong = 0;
  private static String sentence = "";
  private static final Set<String> SENTENCES = new LinkedHashSet<>();

  private Due() {
  }

  /**
   * Says which sentence of the document, or which part of one, under which heading, is held by what is
   * asked next. SentencesTest looks whether the document says so, and whether any sentence is left.
   */
  static void sentence(String heading, String words) {
    sentence = heading + ", \"" + words + "\": ";
    SENTENCES.add(heading + "\t" + words + "\n");
  }

  static void is(String what, long got, long want) {
    asked++;
    if (got != want) {
      wrong++;
      if (wrong <= 40) {
        System.out.println("  " + sentence + what + " answered " + got + ", due is " + want);
      }
    }
  }

  static void holds(String what, boolean truth) {
    is(what, truth ? 1 : 0, 1);
  }

  /** Puts a text in place of the one that is there. */
  static void text(StretchSpool x, String text) {
    x.clearText();
    for (int place = 0; place < text.length(); place++) {
      x.type(text.charAt(place));
    }
  }

  static int perform(StretchSpool x, String text) {
    text(x, text);
    return x.perform();
  }

  /** A new object with one wire on the spool 0. */
  static StretchSpool with(String letters) {
    StretchSpool x = new StretchSpool();
    is("write 0 " + letters, perform(x, "write 0 " + letters), letters.length());
    return x;
  }

  static String times(String part, int times) {
    StringBuilder all = new StringBuilder();
    for (int time = 0; time < times; time++) {
      all.append(part);
    }
    return all.toString();
  }

  /** All that an object tells, as one text: what is the same before and after changed nothing. */
  static String all(StretchSpool x) {
    StringBuilder told = new StringBuilder();
    for (int what = 0; what <= 10; what++) {
      told.append(x.count(what)).append(' ');
    }
    return told.append(stateOf(x)).toString();
  }

  /** What belongs to the state alone: without the history, the text and the snapshot. */
  static String stateOf(StretchSpool x) {
    StringBuilder told = new StringBuilder();
    for (int what = 0; what <= 8; what++) {
      told.append(x.count(what)).append(' ');
    }
    for (int spool = 0; spool < 6; spool++) {
      told.append("; ").append(spool).append(": ").append(x.spool(spool, 4)).append(' ');
      for (int gap = 0; x.gap(spool, gap, 0) >= 0; gap++) {
        for (int what = 0; what <= 2; what++) {
          told.append(x.gap(spool, gap, what)).append(what < 2 ? '/' : ' ');
        }
      }
      told.append(x.spool(spool, 1));
    }
    for (int back = 0; back < 11; back++) {
      told.append("; ");
      for (int what = 0; what <= 2; what++) {
        told.append(x.event(back, what)).append(' ');
      }
    }
    return told.toString();
  }

  static void end() {
    leaveSentences();
    System.out.println("  " + asked + " answers, " + wrong + " not as due");
    if (wrong != 0) {
      System.exit(1);
    }
  }

  /** For SentencesTest, which runs behind all others. */
  private static void leaveSentences() {
    String place = System.getProperty("stretchspool.sentences");
    if (place == null) {
      return;
    }
    try {
      Files.writeString(Path.of(place), String.join("", SENTENCES), StandardOpenOption.CREATE, StandardOpenOption.APPEND);
    } catch (IOException e) {
      throw new UncheckedIOException(e);
    }
  }
}
