/** Promise 8: punch. */
public final class Promise08PunchTest {
  public static void main(String[] args) {
    readRight();
    readWrong();
    unreadable();
    openWire();
    wrongValues();
    Due.end();
  }

  private static void readRight() {
    StretchSpool x = Due.with("abh");
    x.rewind(0, 9, 2);
    Due.is("punch(0, 2)", x.punch(0, 2), 0);
    int[] lengths = {5000, 2000, 3000, 9000, 5000};
    for (int gap = 0; gap < lengths.length; gap++) {
      Due.is("length " + gap, x.gap(0, gap, 0), lengths[gap]);
      Due.is("nominal " + gap, x.gap(0, gap, 1), lengths[gap]);
    }
    Due.is("wire used", x.count(3), 48000);
    Due.is("rewinds of the wire", x.spool(0, 4), 0);
    Due.is("rewinds so far stay", x.count(4), 2);
    Due.is("kind", x.event(0, 0), 6);
    Due.is("spool", x.event(0, 1), 0);
    Due.is("way", x.event(0, 2), 2);
    Due.is("recorded", x.count(9), 3);
    x.undo();
    Due.is("undone: length", x.gap(0, 3, 0), 9592);
    Due.is("undone: wire used", x.count(3), 24000);
    Due.is("undone: rewinds of the wire", x.spool(0, 4), 2);
    Due.is("a wire just punched", x.punch(0, 0), 0);
    Due.is("its way", x.event(0, 2), 0);
  }

  /** The gap 30 stretches by 432, that at the beginning by 162: 9081 over 5246 is read as h. */
  private static void readWrong() {
    StretchSpool x = Due.with(Due.times("a", 29) + "g");
    x.setRule(1);
    x.rewind(0, 9, 3);
    Due.is("length", x.gap(0, 30, 0), 9081);
    Due.is("read as h", x.read(0, 0, 29), 'h');
    int used = x.count(3);
    Due.is("one is punched as another one", x.punch(0, 0), 1);
    Due.is("as h", x.gap(0, 30, 1), 9000);
    Due.is("as h", x.gap(0, 30, 0), 9000);
    Due.is("its truth stays", x.gap(0, 30, 2), 'g');
    Due.is("wire used", x.count(3), used + 10000 + 29 * 2000 + 9000);
    Due.is("it is misread still", x.errors(0, 0, 0), 1);
    Due.is("punched again", x.punch(0, 1), 1);
    Due.is("as h", x.gap(0, 30, 1), 9000);
  }

  private static void unreadable() {
    StretchSpool x = Due.with(Due.times("a", 29) + "h");
    x.setRule(1);
    x.rewind(0, 9, 3);
    Due.is("length", x.gap(0, 30, 0), 10216);
    String before = Due.all(x);
    Due.is("a letter cannot be read", x.punch(0, 0), StretchSpool.NOT_POSSIBLE);
    Due.holds("it changes nothing", before.equals(Due.all(x)));
    Due.is("by both ends all can", x.punch(0, 2), 0);
  }

  private static void openWire() {
    StretchSpool x = Due.with("ab");
    x.rewind(0, 9, 1);
    x.cut(0, 1);
    int used = x.count(3);
    Due.is("not by both ends", x.punch(0, 2), StretchSpool.NOT_POSSIBLE);
    Due.is("punch(0, 1)", x.punch(0, 1), 0);
    Due.is("it has no end to punch", x.count(3), used + 7000);
    Due.is("open as before", x.spool(0, 1), 0);
    Due.is("two gaps", x.gap(0, 2, 0), StretchSpool.UNKNOWN);
    x.cut(0, 0);
    Due.is("a wire without letters", x.punch(0, 0), 0);
    Due.is("one gap is punched", x.count(3), used + 7000 + 5000 + 5000);
  }

  private static void wrongValues() {
    StretchSpool x = Due.with("ab");
    String before = Due.all(x);
    Due.is("punch(-1, 3)", x.punch(-1, 3), StretchSpool.UNKNOWN);
    Due.is("punch(6, 0)", x.punch(6, 0), StretchSpool.UNKNOWN);
    Due.is("punch(1, 3)", x.punch(1, 3), StretchSpool.BAD_VALUE);
    Due.is("punch(0, -1)", x.punch(0, -1), StretchSpool.BAD_VALUE);
    Due.is("punch(1, 0)", x.punch(1, 0), StretchSpool.NOT_POSSIBLE);
    Due.holds("errors change nothing", before.equals(Due.all(x)));
  }
}
