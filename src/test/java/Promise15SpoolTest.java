/** Promise 15: spool. */
public final class Promise15SpoolTest {
  public static void main(String[] args) {
    StretchSpool x = Due.with("abh");
    tells(x, 0, new int[] {3, 1, 24000, 24000, 0, 0, 1000});
    x.rewind(0, 9, 1);
    tells(x, 0, new int[] {3, 1, 5162 + 2064 + 3097 + 9291 + 5162, 24000, 1, 0, 1032});
    x.setRule(1);
    x.rewind(0, 9, 1);
    int[] lengths = {5245, 2099, 3152, 9466, 5264};
    for (int gap = 0; gap < lengths.length; gap++) {
      Due.is("length " + gap, x.gap(0, gap, 0), lengths[gap]);
    }
    tells(x, 0, new int[] {3, 1, 25226, 24000, 2, 4, 1052});
    x.cut(0, 3 - 1);
    tells(x, 0, new int[] {2, 0, 5245 + 2099 + 3152, 10000, 2, 2, 1050});
    tells(x, 1, new int[] {1, 1, 5000 + 9466 + 5264, 19000, 0, 2, 1052});
    x.close(0);
    tells(x, 0, new int[] {2, 1, 5245 + 2099 + 3152 + 5000, 15000, 2, 2, 1050});
    x.splice(1, 0);
    tells(x, 1, new int[] {3, 1, 5000 + 9466 + 2099 + 3152 + 5000, 24000, 0, 1, 1051});
    x.punch(1, 0);
    tells(x, 1, new int[] {3, 1, 24000, 24000, 0, 0, 1000});
    theFirstOfSeveral();
    wrongValues();
    Due.end();
  }

  private static void tells(StretchSpool x, int spool, int[] due) {
    for (int what = 0; what < due.length; what++) {
      Due.is("spool(" + spool + ", " + what + ")", x.spool(spool, what), due[what]);
    }
  }

  /** 5059 over 5000 is more than 3033 over 3000, but both quotients are rounded down to 1011. */
  private static void theFirstOfSeveral() {
    StretchSpool x = Due.with("ab");
    x.setRule(1);
    x.rewind(0, 7, 1);
    int[] lengths = {5049, 2021, 3033, 5059};
    for (int gap = 0; gap < lengths.length; gap++) {
      Due.is("length " + gap, x.gap(0, gap, 0), lengths[gap]);
    }
    Due.is("1009, 1010, 1011 and 1011", x.spool(0, 5), 2);
    Due.is("the quotient", x.spool(0, 6), 1011);
  }

  private static void wrongValues() {
    StretchSpool x = Due.with("a");
    Due.is("spool(-1, 7)", x.spool(-1, 7), StretchSpool.UNKNOWN);
    Due.is("spool(6, 0)", x.spool(6, 0), StretchSpool.UNKNOWN);
    Due.is("spool(0, -1)", x.spool(0, -1), StretchSpool.BAD_VALUE);
    Due.is("spool(0, 7)", x.spool(0, 7), StretchSpool.BAD_VALUE);
    Due.is("spool(1, 7)", x.spool(1, 7), StretchSpool.BAD_VALUE);
    for (int what = 0; what < 7; what++) {
      Due.is("spool(1, " + what + ")", x.spool(1, what), StretchSpool.NOT_POSSIBLE);
    }
  }
}
