/** Promise 1: a new object. */
public final class Promise01NewObjectTest {
  public static void main(String[] args) {
    StretchSpool x = new StretchSpool();
    for (int spool = 0; spool < 6; spool++) {
      Due.is("spool " + spool + " is empty", x.spool(spool, 0), StretchSpool.NOT_POSSIBLE);
      Due.is("spool " + spool + " has no gap", x.gap(spool, 0, 0), StretchSpool.UNKNOWN);
    }
    Due.is("there is no spool 6", x.spool(6, 0), StretchSpool.UNKNOWN);
    int[] counts = {0, 0, 0, 0, 0, 0, 0, 0, 130, 0, 0};
    for (int what = 0; what < counts.length; what++) {
      Due.is("count(" + what + ")", x.count(what), counts[what]);
    }
    Due.is("no event", x.event(0, 0), StretchSpool.NONE);
    Due.is("no history", x.undo(), StretchSpool.NONE);
    Due.is("no snapshot", x.restore(), StretchSpool.NONE);
    Due.is("no text", x.clearText(), 0);

    StretchSpool other = new StretchSpool();
    Due.perform(x, "write 0 abc");
    x.setRule(2);
    x.keep();
    Due.is("objects share no spools", other.spool(0, 0), StretchSpool.NOT_POSSIBLE);
    Due.is("objects share no rule", other.count(7), 0);
    Due.is("objects share no snapshot", other.restore(), StretchSpool.NONE);
    Due.is("objects share no text", other.count(10), 0);

    Due.is("UNKNOWN", StretchSpool.UNKNOWN, -1);
    Due.is("BAD_VALUE", StretchSpool.BAD_VALUE, -2);
    Due.is("FULL", StretchSpool.FULL, -3);
    Due.is("NOT_POSSIBLE", StretchSpool.NOT_POSSIBLE, -4);
    Due.is("NONE", StretchSpool.NONE, -5);
    Due.end();
  }
}
