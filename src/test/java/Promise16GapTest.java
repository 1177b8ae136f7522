/** Promise 16: gap. */
public final class Promise16GapTest {
  public static void main(String[] args) {
    StretchSpool x = Due.with("ahd");
    x.rewind(0, 9, 1);
    row(x, 0, new int[] {5162, 5000, StretchSpool.NONE, 324});
    row(x, 1, new int[] {2064, 2000, 'a', 324});
    row(x, 2, new int[] {9291, 9000, 'h', 324});
    row(x, 3, new int[] {5162, 5000, 'd', 324});
    row(x, 4, new int[] {5162, 5000, StretchSpool.NONE, 324});
    x.setRule(1);
    Due.is("stretch by rule 1", x.gap(0, 4, 3), 198);
    x.setRule(2);
    Due.is("stretch by rule 2", x.gap(0, 0, 3), 198);
    x.cut(0, 2);
    Due.is("with the gaps that are left", x.gap(0, 0, 3), 180);
    Due.is("with the gaps of the other", x.gap(1, 0, 3), 180);
    Due.is("the open end", x.gap(0, 3, 0), StretchSpool.UNKNOWN);
    Due.is("the last letter", x.gap(0, 2, 2), 'h');

    Due.is("gap(-1, 0, 4)", x.gap(-1, 0, 4), StretchSpool.UNKNOWN);
    Due.is("gap(6, 0, 0)", x.gap(6, 0, 0), StretchSpool.UNKNOWN);
    Due.is("gap(0, -1, 0)", x.gap(0, -1, 0), StretchSpool.UNKNOWN);
    Due.is("gap(0, 3, 9)", x.gap(0, 3, 9), StretchSpool.UNKNOWN);
    Due.is("gap(2, 0, 9), empty", x.gap(2, 0, 9), StretchSpool.UNKNOWN);
    Due.is("gap(0, most, 0)", x.gap(0, Integer.MAX_VALUE, 0), StretchSpool.UNKNOWN);
    Due.is("gap(0, 0, -1)", x.gap(0, 0, -1), StretchSpool.BAD_VALUE);
    Due.is("gap(0, 0, 4)", x.gap(0, 0, 4), StretchSpool.BAD_VALUE);

    StretchSpool full = Due.with(Due.times("b", 30));
    Due.is("the gap 31", full.gap(0, 31, 1), 5000);
    Due.is("the gap 32", full.gap(0, 32, 1), StretchSpool.UNKNOWN);
    full.setRule(1);
    Due.is("the greatest stretch", full.gap(0, 31, 3), 441);
    Due.end();
  }

  private static void row(StretchSpool x, int gap, int[] due) {
    for (int what = 0; what < due.length; what++) {
      Due.is("gap(0, " + gap + ", " + what + ")", x.gap(0, gap, what), due[what]);
    }
  }
}
