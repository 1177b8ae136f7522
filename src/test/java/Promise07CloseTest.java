/** Promise 7: close. */
public final class Promise07CloseTest {
  public static void main(String[] args) {
    StretchSpool x = Due.with("abc");
    String before = Due.all(x);
    Due.is("closed already", x.close(0), StretchSpool.NONE);
    Due.is("close(1), empty", x.close(1), StretchSpool.NOT_POSSIBLE);
    Due.is("close(-1)", x.close(-1), StretchSpool.UNKNOWN);
    Due.is("close(6)", x.close(6), StretchSpool.UNKNOWN);
    Due.holds("these change nothing", before.equals(Due.all(x)));

    x.rewind(0, 9, 2);
    x.cut(0, 2);
    int used = x.count(3);
    Due.is("close(0)", x.close(0), 2);
    Due.is("closed", x.spool(0, 1), 1);
    Due.is("a new gap at its end", x.gap(0, 3, 0), 5000);
    Due.is("of the nominal length", x.gap(0, 3, 1), 5000);
    Due.is("without a truth", x.gap(0, 3, 2), StretchSpool.NONE);
    Due.is("the others stay", x.gap(0, 0, 0), 5329);
    Due.is("its rewinds stay", x.spool(0, 4), 2);
    Due.is("wire used", x.count(3), used + 5000);
    Due.is("kind", x.event(0, 0), 5);
    Due.is("spool", x.event(0, 1), 0);
    Due.is("letters", x.event(0, 2), 2);
    Due.is("recorded", x.count(9), 4);
    x.undo();
    Due.is("undone", x.spool(0, 1), 0);
    Due.is("undone: wire used", x.count(3), used);

    x.cut(0, 0);
    Due.is("a wire without letters", x.close(0), 0);
    Due.is("its two gaps", x.spool(0, 3), 10000);
    Due.is("closed then", x.close(0), StretchSpool.NONE);

    StretchSpool full = Due.with(Due.times("h", 30));
    full.setRule(1);
    full.setLimit(102);
    Due.is("the end alone breaks, by 205", full.rewind(0, 5, 1), 1);
    Due.is("no letter lost", full.spool(0, 0), 30);
    Due.is("a wire of 30 letters", full.close(0), 30);
    Due.is("its last gap", full.gap(0, 31, 0), 5000);
    Due.end();
  }
}
