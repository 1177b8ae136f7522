/** Promise 3: setLimit. */
public final class Promise03SetLimitTest {
  public static void main(String[] args) {
    StretchSpool x = Due.with("a");
    Due.is("setLimit(100)", x.setLimit(100), StretchSpool.BAD_VALUE);
    Due.is("setLimit(201)", x.setLimit(201), StretchSpool.BAD_VALUE);
    Due.is("setLimit(-101)", x.setLimit(-101), StretchSpool.BAD_VALUE);
    Due.is("setLimit(130), so already", x.setLimit(130), StretchSpool.NONE);
    Due.is("none of these is recorded", x.count(9), 1);
    Due.is("setLimit(200)", x.setLimit(200), 130);
    Due.is("the limit", x.count(8), 200);
    Due.is("setLimit(200), so already", x.setLimit(200), StretchSpool.NONE);
    Due.is("setLimit(101)", x.setLimit(101), 200);
    Due.is("the limit", x.count(8), 101);
    Due.is("both are recorded", x.count(9), 3);
    x.undo();
    Due.is("the limit is back", x.count(8), 200);

    Due.is("two rewinds within the limit", x.rewind(0, 5, 2), 2);
    Due.is("setLimit(101)", x.setLimit(101), 200);
    Due.is("the wire does not break by that alone", x.spool(0, 0), 1);
    Due.is("no break", x.count(5), 0);
    Due.is("what is too long breaks also with the pull 0", x.rewind(0, 0, 3), 1);
    Due.is("at the gap 0", x.spool(0, 0), StretchSpool.NOT_POSSIBLE);

    Due.is("at 101 a gap of 101 percent holds", rewindsUntilEmpty(101), 2);
    Due.is("at 102 one of 102 percent holds", rewindsUntilEmpty(102), 3);
    Due.end();
  }

  /** By the pull 5 the gap at the beginning is 5050, 5100 and 5151 long, in turn. */
  private static int rewindsUntilEmpty(int limit) {
    StretchSpool x = Due.with("a");
    x.setLimit(limit);
    return x.rewind(0, 5, 30);
  }
}
