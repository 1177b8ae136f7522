/** Promise 21: safeRewinds. */
public final class Promise21SafeRewindsTest {
  public static void main(String[] args) {
    StretchSpool x = Due.with(Due.times("a", 22) + "gaaaaahg");
    x.setRule(1);
    x.setLimit(200);
    String before = Due.all(x);
    Due.is("until the h cannot be read", x.safeRewinds(0, 0, 9), 2);
    Due.is("the pull 0 stretches nothing", x.safeRewinds(0, 0, 0), 30);
    Due.holds("it changes nothing", before.equals(Due.all(x)));
    x.rewind(0, 9, 3);
    Due.is("one misread, one unreadable", x.errors(0, 0, 0) + 10 * x.errors(0, 0, 1), 11);
    Due.is("the next one makes another misread", x.safeRewinds(0, 0, 9), 0);
    Due.is("as they are read now: with the pull 0 for ever", x.safeRewinds(0, 0, 0), 30);

    theFirstLetterAlone();
    whatCannotBeReadNow();
    breaks();
    wrongValues();
    Due.end();
  }

  /** A g of 8473 over a new beginning: by 171 and 162 it is 9065 over 5330 at the fourth rewind. */
  private static void theFirstLetterAlone() {
    StretchSpool x = Due.with("gaa");
    x.setLimit(200);
    x.rewind(0, 9, 1);
    x.rewind(0, 7, 1);
    x.rewind(0, 4, 1);
    x.cut(0, 0);
    x.setRule(1);
    Due.is("length", x.gap(1, 1, 0), 8473);
    Due.is("three", x.safeRewinds(1, 0, 9), 3);
    x.rewind(1, 9, 3);
    Due.is("it is read as it was", x.read(1, 0, 0), 'g');
    x.rewind(1, 9, 1);
    Due.is("it is not", x.read(1, 0, 0), 'h');
  }

  /** By rule 2 the beginning stretches more: a letter beyond h comes back into what can be read. */
  private static void whatCannotBeReadNow() {
    StretchSpool x = Due.with("h" + Due.times("a", 29));
    x.setLimit(200);
    x.rewind(0, 9, 2);
    x.cut(0, 0);
    Due.is("unreadable by a new beginning", x.read(1, 0, 0), '?');
    x.setRule(0);
    Due.is("all stretch alike: it stays so", x.safeRewinds(1, 0, 1), 30);

    StretchSpool y = Due.with(Due.times("a", 29) + "h");
    y.setLimit(200);
    y.setRule(1);
    y.rewind(0, 9, 3);
    Due.is("unreadable", y.read(0, 0, 29), '?');
    y.setRule(2);
    int safe = y.safeRewinds(0, 0, 9);
    Due.is("safe until it can be read again", safe, 0);
    y.rewind(0, 9, 1);
    Due.is("which it can", y.read(0, 0, 29), 'h');
  }

  private static void breaks() {
    StretchSpool x = Due.with("aaaa");
    x.setRule(1);
    x.setLimit(101);
    Due.is("a break of the end alone", x.safeRewinds(0, 0, 6), 0);
    x.setRule(0);
    Due.is("101 percent is no break", x.safeRewinds(0, 1, 5), 1);
    x.setLimit(102);
    Due.is("nor 102 percent then", x.safeRewinds(0, 1, 5), 2);
    x.rewind(0, 5, 2);
    x.setLimit(101);
    Due.is("beyond the limit already", x.safeRewinds(0, 0, 0), 0);
    Due.is("without a rewind it is whole", x.spool(0, 0), 4);
  }

  private static void wrongValues() {
    StretchSpool x = Due.with("ab");
    Due.is("safeRewinds(-1, 2, 0)", x.safeRewinds(-1, 2, 0), StretchSpool.UNKNOWN);
    Due.is("safeRewinds(6, 0, 10)", x.safeRewinds(6, 0, 10), StretchSpool.UNKNOWN);
    Due.is("safeRewinds(0, 2, 0)", x.safeRewinds(0, 2, 0), StretchSpool.BAD_VALUE);
    Due.is("safeRewinds(0, -1, 0)", x.safeRewinds(0, -1, 0), StretchSpool.BAD_VALUE);
    Due.is("safeRewinds(0, 0, 10)", x.safeRewinds(0, 0, 10), StretchSpool.BAD_VALUE);
    Due.is("safeRewinds(0, 0, -1)", x.safeRewinds(0, 0, -1), StretchSpool.BAD_VALUE);
    Due.is("safeRewinds(1, 2, 0), empty", x.safeRewinds(1, 2, 0), StretchSpool.BAD_VALUE);
    Due.is("safeRewinds(1, 0, 0), empty", x.safeRewinds(1, 0, 0), StretchSpool.NOT_POSSIBLE);
    x.cut(0, 0);
    Due.is("a wire without letters", x.safeRewinds(0, 0, 0), 30);
  }
}
