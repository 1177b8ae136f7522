/** Promise 18: errors. */
public final class Promise18ErrorsTest {
  public static void main(String[] args) {
    StretchSpool x = Due.with("abcdefgh");
    tells(x, 0, 0, new int[] {0, 0, StretchSpool.NONE});
    tells(x, 0, 1, new int[] {0, 0, StretchSpool.NONE});
    tells(x, 0, 2, new int[] {0, 0, StretchSpool.NONE});

    StretchSpool y = Due.with(Due.times("a", 22) + "gaaaaahg");
    y.setRule(1);
    y.setLimit(200);
    y.rewind(0, 9, 3);
    Due.is("g", y.read(0, 0, 22), 'g');
    Due.is("h", y.read(0, 0, 28), '?');
    Due.is("g", y.read(0, 0, 29), 'h');
    tells(y, 0, 0, new int[] {1, 1, 28});
    y.rewind(0, 9, 1);
    Due.is("g", y.read(0, 0, 22), 'h');
    tells(y, 0, 0, new int[] {2, 1, 22});
    y.punch(0, 2);
    int misread = y.errors(0, 0, 0);
    Due.is("no letter of a punched wire is unreadable", y.errors(0, 0, 1), 0);
    Due.is("it is misread as it was punched", misread, y.errors(0, 2, 0));

    StretchSpool z = Due.with("ab");
    z.cut(0, 1);
    tells(z, 0, 1, new int[] {0, 0, StretchSpool.NONE});
    Due.is("errors(0, 2, 0), open", z.errors(0, 2, 0), StretchSpool.NOT_POSSIBLE);
    Due.is("errors(0, 2, 2), open", z.errors(0, 2, 2), StretchSpool.NOT_POSSIBLE);
    Due.is("errors(0, 2, 3), open", z.errors(0, 2, 3), StretchSpool.BAD_VALUE);
    Due.is("errors(0, 3, 0), open", z.errors(0, 3, 0), StretchSpool.BAD_VALUE);
    Due.is("errors(0, -1, 0)", z.errors(0, -1, 0), StretchSpool.BAD_VALUE);
    Due.is("errors(0, 0, -1)", z.errors(0, 0, -1), StretchSpool.BAD_VALUE);
    Due.is("errors(0, 0, 3)", z.errors(0, 0, 3), StretchSpool.BAD_VALUE);
    Due.is("errors(5, 0, 3), empty", z.errors(5, 0, 3), StretchSpool.BAD_VALUE);
    Due.is("errors(5, 3, 0), empty", z.errors(5, 3, 0), StretchSpool.BAD_VALUE);
    Due.is("errors(5, 0, 0), empty", z.errors(5, 0, 0), StretchSpool.NOT_POSSIBLE);
    Due.is("errors(6, 3, 3)", z.errors(6, 3, 3), StretchSpool.UNKNOWN);
    Due.is("errors(-1, 0, 0)", z.errors(-1, 0, 0), StretchSpool.UNKNOWN);
    z.cut(0, 0);
    tells(z, 0, 0, new int[] {0, 0, StretchSpool.NONE});
    Due.end();
  }

  private static void tells(StretchSpool x, int spool, int way, int[] due) {
    for (int what = 0; what < due.length; what++) {
      Due.is("errors(" + spool + ", " + way + ", " + what + ")", x.errors(spool, way, what), due[what]);
    }
  }
}
