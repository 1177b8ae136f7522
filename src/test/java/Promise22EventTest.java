/** Promise 22: event. */
public final class Promise22EventTest {
  public static void main(String[] args) {
    StretchSpool x = new StretchSpool();
    Due.is("none yet", x.event(0, 0), StretchSpool.NONE);
    Due.perform(x, "write 3 abcde");
    latest(x, 0, 3, 5);
    x.rewind(3, 4, 1);
    latest(x, 1, 3, 4);
    x.cut(3, 2);
    latest(x, 3, 3, 0);
    x.close(3);
    latest(x, 5, 3, 2);
    x.punch(0, 1);
    latest(x, 6, 0, 1);
    x.splice(0, 3);
    latest(x, 4, 0, 5);
    Due.is("one more back", x.event(1, 0), 6);
    Due.is("the first one", x.event(5, 0), 0);
    Due.is("none before it", x.event(6, 0), StretchSpool.NONE);
    x.setRule(2);
    x.setLimit(101);
    Due.is("settings are no events", x.event(6, 0), StretchSpool.NONE);
    Due.is("broken at the beginning", x.rewind(0, 9, 7), 1);
    latest(x, 2, 0, 7);
    Due.is("behind the rewind", x.event(1, 0), 1);
    Due.is("of this spool", x.event(1, 1), 0);
    Due.is("with its pull", x.event(1, 2), 9);
    Due.is("behind the splicing", x.event(2, 0), 4);

    atMostTen();
    tenOfSeveralKinds();
    wrongValues();
    Due.end();
  }

  private static void latest(StretchSpool x, int kind, int spool, int number) {
    Due.is("kind", x.event(0, 0), kind);
    Due.is("spool", x.event(0, 1), spool);
    Due.is("number", x.event(0, 2), number);
  }

  private static void atMostTen() {
    StretchSpool x = Due.with("a");
    for (int pull = 0; pull < 9; pull++) {
      x.rewind(0, pull, 1);
    }
    Due.is("ten events", x.event(9, 0), 0);
    Due.is("no eleventh", x.event(10, 0), StretchSpool.NONE);
    x.rewind(0, 9, 1);
    for (int back = 0; back < 10; back++) {
      Due.is("kind", x.event(back, 0), 1);
      Due.is("pull", x.event(back, 2), 9 - back);
    }
    Due.is("the writing is forgotten", x.event(10, 0), StretchSpool.NONE);
    x.undo();
    Due.is("undo brings it back", x.event(9, 0), 0);
    x.rewind(0, 2, 4);
    for (int back = 0; back < 4; back++) {
      Due.is("an event for each time", x.event(back, 2), 2);
    }
    Due.is("the one before", x.event(4, 2), 8);
    x.rewind(0, 1, 30);
    Due.is("more than ten at once", x.event(9, 2), 1);
    Due.is("ten are known", x.event(10, 2), StretchSpool.NONE);
  }

  private static void tenOfSeveralKinds() {
    StretchSpool x = new StretchSpool();
    for (int spool = 0; spool < 5; spool++) {
      Due.perform(x, "write " + spool + " " + Due.times("b", spool + 1));
      x.rewind(spool, spool + 2, 1);
    }
    x.cut(4, 1);
    latest(x, 3, 4, 5);
    x.close(4);
    latest(x, 5, 4, 1);
    for (int back = 2; back < 10; back++) {
      int spool = 5 - back / 2;
      Due.is("kind", x.event(back, 0), 1 - back % 2);
      Due.is("spool", x.event(back, 1), spool);
      Due.is("number", x.event(back, 2), back % 2 == 0 ? spool + 2 : spool + 1);
    }
    x.undo();
    latest(x, 3, 4, 5);
    x.undo();
    latest(x, 1, 4, 6);
    Due.is("spool", x.event(2, 1), 3);
    Due.is("the first one is back", x.event(9, 1), 0);
    Due.is("as it was", x.event(9, 0), 0);
  }

  private static void wrongValues() {
    StretchSpool x = new StretchSpool();
    Due.is("event(-1, 0)", x.event(-1, 0), StretchSpool.BAD_VALUE);
    Due.is("event(0, -1)", x.event(0, -1), StretchSpool.BAD_VALUE);
    Due.is("event(0, 3)", x.event(0, 3), StretchSpool.BAD_VALUE);
    Due.is("event(99, 3)", x.event(99, 3), StretchSpool.BAD_VALUE);
    Due.is("event(least, 0)", x.event(Integer.MIN_VALUE, 0), StretchSpool.BAD_VALUE);
    Due.is("event(most, 2)", x.event(Integer.MAX_VALUE, 2), StretchSpool.NONE);
  }
}
