/** Promise 5: cut. */
public final class Promise05CutTest {
  public static void main(String[] args) {
    closedWire();
    openWireAndLowestSpool();
    wrongValues();
    Due.end();
  }

  private static void closedWire() {
    StretchSpool x = Due.with("abcd");
    x.rewind(0, 9, 1);
    int used = x.count(3);
    Due.is("cut(0, 1)", x.cut(0, 1), 1);
    Due.is("left: letters", x.spool(0, 0), 1);
    Due.is("left: open", x.spool(0, 1), 0);
    Due.is("left: rewinds", x.spool(0, 4), 1);
    Due.is("left: lengths", x.spool(0, 2), 5162 + 2064);
    Due.is("gone: letters", x.spool(1, 0), 3);
    Due.is("gone: closed", x.spool(1, 1), 1);
    Due.is("gone: rewinds", x.spool(1, 4), 0);
    Due.is("gone: a new gap at the beginning", x.gap(1, 0, 0), 5000);
    Due.is("gone: it has no truth", x.gap(1, 0, 2), StretchSpool.NONE);
    int[] lengths = {5000, 3097, 4129, 5162, 5162};
    int[] nominals = {5000, 3000, 4000, 5000, 5000};
    for (int gap = 0; gap < 5; gap++) {
      Due.is("gone: length " + gap, x.gap(1, gap, 0), lengths[gap]);
      Due.is("gone: nominal " + gap, x.gap(1, gap, 1), nominals[gap]);
    }
    Due.is("gone: truth", x.gap(1, 1, 2), 'b');
    Due.is("gone: truth", x.gap(1, 3, 2), 'd');
    Due.is("gone: the end has none", x.gap(1, 4, 2), StretchSpool.NONE);
    Due.is("wire used", x.count(3), used + 5000);
    Due.is("kind", x.event(0, 0), 3);
    Due.is("spool", x.event(0, 1), 0);
    Due.is("other spool", x.event(0, 2), 1);
    Due.is("recorded", x.count(9), 3);
    x.undo();
    Due.is("undone", x.spool(0, 0), 4);
    Due.is("undone", x.spool(1, 0), StretchSpool.NOT_POSSIBLE);
    Due.is("undone: wire used", x.count(3), used);
  }

  private static void openWireAndLowestSpool() {
    StretchSpool x = new StretchSpool();
    Due.perform(x, "write 3 abcdef");
    Due.perform(x, "write 0 a");
    Due.is("cut(3, 5)", x.cut(3, 5), 1);
    Due.is("cut(3, 4), now open", x.cut(3, 4), 2);
    Due.is("what an open wire loses is open", x.spool(2, 1), 0);
    Due.is("one letter", x.spool(2, 0), 1);
    Due.is("cut(3, 0)", x.cut(3, 0), 4);
    Due.is("nothing but the beginning is left", x.spool(3, 0), 0);
    Due.is("its gap", x.spool(3, 2), 5000);
    Due.is("the others are gone", x.spool(4, 0), 4);
    Due.is("cut(3, 0) again", x.cut(3, 0), StretchSpool.UNKNOWN);
    Due.is("cut(4, 1)", x.cut(4, 1), 5);
    String before = Due.all(x);
    Due.is("no empty spool", x.cut(5, 1), StretchSpool.FULL);
    Due.is("a letter that is not there", x.cut(5, 3), StretchSpool.UNKNOWN);
    Due.holds("errors change nothing", before.equals(Due.all(x)));
  }

  private static void wrongValues() {
    StretchSpool x = Due.with("ab");
    String before = Due.all(x);
    Due.is("cut(-1, 0)", x.cut(-1, 0), StretchSpool.UNKNOWN);
    Due.is("cut(6, 0)", x.cut(6, 0), StretchSpool.UNKNOWN);
    Due.is("cut(0, -1)", x.cut(0, -1), StretchSpool.UNKNOWN);
    Due.is("cut(0, 2)", x.cut(0, 2), StretchSpool.UNKNOWN);
    Due.is("cut(1, 0)", x.cut(1, 0), StretchSpool.UNKNOWN);
    Due.is("cut(0, most)", x.cut(0, Integer.MAX_VALUE), StretchSpool.UNKNOWN);
    Due.holds("errors change nothing", before.equals(Due.all(x)));
    Due.is("cut(0, 1), the last letter", x.cut(0, 1), 1);
    Due.is("a letter", x.spool(1, 0), 1);
  }
}
