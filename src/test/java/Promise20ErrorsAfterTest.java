/** Promise 20: errorsAfter. */
public final class Promise20ErrorsAfterTest {
  public static void main(String[] args) {
    StretchSpool x = Due.with(Due.times("a", 22) + "gaaaaahg");
    x.setRule(1);
    x.setLimit(200);
    String before = Due.all(x);
    Due.is("none now", x.errorsAfter(0, 0, 9, 0), 0);
    Due.is("after one", x.errorsAfter(0, 0, 9, 1), 0);
    Due.is("after three", x.errorsAfter(0, 0, 9, 3), 2);
    Due.is("after four", x.errorsAfter(0, 0, 9, 4), 3);
    Due.is("the pull 0 stretches nothing", x.errorsAfter(0, 0, 0, 30), 0);
    Due.holds("it changes nothing", before.equals(Due.all(x)));
    x.rewind(0, 9, 3);
    Due.is("those that are now", x.errorsAfter(0, 0, 9, 0), 2);
    Due.is("and after one more", x.errorsAfter(0, 0, 9, 1), 3);

    breaks();
    wrongValues();
    Due.end();
  }

  private static void breaks() {
    StretchSpool x = Due.with("abcdefgh");
    x.setRule(1);
    x.setLimit(101);
    Due.is("a break at the gap 5: four letters are lost", x.errorsAfter(0, 0, 6, 1), 4);
    Due.is("nothing is rewound behind it", x.errorsAfter(0, 0, 6, 30), 4);
    Due.is("by what is read", x.errorsAfter(0, 1, 6, 30), 4);
    x.setRule(2);
    Due.is("a break at the beginning: all are lost", x.errorsAfter(0, 1, 9, 1), 8);
    Due.is("the wire is there still", x.spool(0, 0), 8);
    Due.is("no break is told", x.count(5), 0);
    x.setRule(0);
    Due.is("up to the limit", x.errorsAfter(0, 0, 5, 1), 0);
    Due.is("beyond it", x.errorsAfter(0, 0, 5, 2), 8);

    StretchSpool y = Due.with("aaaa");
    y.setRule(1);
    y.setLimit(101);
    Due.is("a break of the end loses no letter", y.errorsAfter(0, 0, 6, 2), 0);
  }

  private static void wrongValues() {
    StretchSpool x = Due.with("ab");
    Due.is("errorsAfter(-1, 2, 0, 0)", x.errorsAfter(-1, 2, 0, 0), StretchSpool.UNKNOWN);
    Due.is("errorsAfter(6, 0, 0, 0)", x.errorsAfter(6, 0, 0, 0), StretchSpool.UNKNOWN);
    Due.is("errorsAfter(0, 2, 0, 0)", x.errorsAfter(0, 2, 0, 0), StretchSpool.BAD_VALUE);
    Due.is("errorsAfter(0, -1, 0, 0)", x.errorsAfter(0, -1, 0, 0), StretchSpool.BAD_VALUE);
    Due.is("errorsAfter(0, 0, 10, 0)", x.errorsAfter(0, 0, 10, 0), StretchSpool.BAD_VALUE);
    Due.is("errorsAfter(0, 0, -1, 0)", x.errorsAfter(0, 0, -1, 0), StretchSpool.BAD_VALUE);
    Due.is("errorsAfter(0, 0, 0, -1)", x.errorsAfter(0, 0, 0, -1), StretchSpool.BAD_VALUE);
    Due.is("errorsAfter(0, 0, 0, 31)", x.errorsAfter(0, 0, 0, 31), StretchSpool.BAD_VALUE);
    Due.is("errorsAfter(0, 0, 0, 30)", x.errorsAfter(0, 0, 0, 30), 0);
    Due.is("errorsAfter(1, 0, 0, 31), empty", x.errorsAfter(1, 0, 0, 31), StretchSpool.BAD_VALUE);
    Due.is("errorsAfter(1, 0, 0, 0), empty", x.errorsAfter(1, 0, 0, 0), StretchSpool.NOT_POSSIBLE);
  }
}
