/** Promise 6: splice. */
public final class Promise06SpliceTest {
  public static void main(String[] args) {
    twoClosedWires();
    openWires();
    room();
    wrongValues();
    Due.end();
  }

  private static void twoClosedWires() {
    StretchSpool x = Due.with("ab");
    Due.perform(x, "write 4 gh");
    x.rewind(0, 9, 2);
    x.rewind(4, 9, 1);
    int used = x.count(3);
    Due.is("splice(0, 4)", x.splice(0, 4), 4);
    int[] lengths = {5329, 2130, 3197, 8259, 9291, 5162};
    for (int gap = 0; gap < lengths.length; gap++) {
      Due.is("length " + gap, x.gap(0, gap, 0), lengths[gap]);
    }
    Due.is("no more gaps", x.gap(0, 6, 0), StretchSpool.UNKNOWN);
    Due.is("nominal", x.gap(0, 3, 1), 8000);
    Due.is("truth", x.gap(0, 4, 2), 'h');
    Due.is("closed", x.spool(0, 1), 1);
    Due.is("rewinds as the first wire", x.spool(0, 4), 2);
    Due.is("the second spool is empty", x.spool(4, 0), StretchSpool.NOT_POSSIBLE);
    Due.is("nothing is punched", x.count(3), used);
    Due.is("kind", x.event(0, 0), 4);
    Due.is("spool", x.event(0, 1), 0);
    Due.is("letters", x.event(0, 2), 4);
    x.undo();
    Due.is("undone", x.spool(4, 0), 2);
    Due.is("undone", x.spool(0, 0), 2);
  }

  private static void openWires() {
    StretchSpool x = Due.with("abcd");
    x.cut(0, 2);
    Due.is("open before closed", x.splice(0, 1), 4);
    Due.is("is closed", x.spool(0, 1), 1);
    x.cut(0, 2);
    Due.is("closed before open", x.splice(1, 0), 4);
    Due.is("is open: its own end is gone", x.spool(1, 1), 0);
    Due.is("the letters of the first", x.gap(1, 1, 2), 'c');
    Due.is("ahead of those of the second", x.gap(1, 4, 2), 'b');
    Due.is("and no gap behind them", x.gap(1, 5, 2), StretchSpool.UNKNOWN);
    x.cut(1, 2);
    Due.is("open before open", x.splice(0, 1), 4);
    Due.is("is open", x.spool(0, 1), 0);
    x.cut(0, 0);
    Due.is("no letter before letters", x.splice(0, 1), 4);
    x.cut(0, 0);
    Due.is("letters before no letter", x.splice(1, 0), 4);
    Due.is("the second one is empty", x.spool(0, 0), StretchSpool.NOT_POSSIBLE);
  }

  private static void room() {
    StretchSpool x = Due.with(Due.times("a", 29));
    Due.perform(x, "write 1 b");
    Due.perform(x, "write 2 c");
    Due.is("30 letters", x.splice(0, 1), 30);
    Due.is("the last gap", x.gap(0, 31, 0), 5000);
    String before = Due.all(x);
    Due.is("31 letters", x.splice(0, 2), StretchSpool.FULL);
    Due.is("31 letters", x.splice(2, 0), StretchSpool.FULL);
    Due.is("an empty spool comes first", x.splice(0, 1), StretchSpool.NOT_POSSIBLE);
    Due.is("the same spool comes first", x.splice(0, 0), StretchSpool.BAD_VALUE);
    Due.holds("errors change nothing", before.equals(Due.all(x)));
  }

  private static void wrongValues() {
    StretchSpool x = Due.with("a");
    String before = Due.all(x);
    Due.is("splice(6, 6)", x.splice(6, 6), StretchSpool.UNKNOWN);
    Due.is("splice(-1, 0)", x.splice(-1, 0), StretchSpool.UNKNOWN);
    Due.is("splice(0, 6)", x.splice(0, 6), StretchSpool.UNKNOWN);
    Due.is("splice(0, -1)", x.splice(0, -1), StretchSpool.UNKNOWN);
    Due.is("splice(1, 1), empty", x.splice(1, 1), StretchSpool.BAD_VALUE);
    Due.is("splice(0, 1)", x.splice(0, 1), StretchSpool.NOT_POSSIBLE);
    Due.is("splice(1, 0)", x.splice(1, 0), StretchSpool.NOT_POSSIBLE);
    Due.holds("errors change nothing", before.equals(Due.all(x)));
  }
}
