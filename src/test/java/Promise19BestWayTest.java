/** Promise 19: bestWay. */
public final class Promise19BestWayTest {
  public static void main(String[] args) {
    StretchSpool x = Due.with("abcdefgh");
    Due.is("all alike: the lowest", x.bestWay(0), 0);
    Due.is("empty", x.bestWay(1), StretchSpool.NOT_POSSIBLE);
    Due.is("bestWay(-1)", x.bestWay(-1), StretchSpool.UNKNOWN);
    Due.is("bestWay(6)", x.bestWay(6), StretchSpool.UNKNOWN);

    StretchSpool y = Due.with(Due.times("c", 29) + "h");
    y.setRule(1);
    y.rewind(0, 9, 3);
    Due.is("by the beginning", y.errors(0, 0, 1), 1);
    Due.is("by what is read", y.errors(0, 1, 1) + y.errors(0, 1, 0), 0);
    Due.is("the way 1", y.bestWay(0), 1);

    StretchSpool z = Due.with(Due.times("h", 5));
    z.setLimit(200);
    z.rewind(0, 9, 3);
    z.cut(0, 0);
    Due.is("a new beginning: five by it", z.errors(1, 0, 1), 5);
    Due.is("five by what is read", z.errors(1, 1, 1), 5);
    int byEnds = z.errors(1, 2, 0) + z.errors(1, 2, 1);
    Due.is("fewer by both ends", byEnds, 2);
    Due.is("the way 2", z.bestWay(1), 2);
    z.cut(1, 4);
    Due.is("open: it cannot be the way 2", z.bestWay(1), 0);
    Due.is("no letters", z.bestWay(0), 0);
    Due.end();
  }
}
