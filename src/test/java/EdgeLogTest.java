/** The edges of what the document says under LOG. */
public final class EdgeLogTest {
  private static final String HEADING = "LOG";

  public static void main(String[] args) {
    noneAtFirst();
    tenAreKnown();
    moreThanTenAtOnce();
    tenBehindUndo();
    tenOfSeveralKindsAndSpools();
    written();
    rewoundEachTime();
    breaksBehind();
    theOtherKinds();
    whatIsNoEvent();
    Due.end();
  }

  private static void is(StretchSpool x, int back, int kind, int spool, int number) {
    Due.is("kind " + back, x.event(back, 0), kind);
    Due.is("spool " + back, x.event(back, 1), spool);
    Due.is("number " + back, x.event(back, 2), number);
  }

  private static void none(StretchSpool x, int back) {
    is(x, back, StretchSpool.NONE, StretchSpool.NONE, StretchSpool.NONE);
  }

  private static final String TEN = "The latest 10 events are known.";

  private static void noneAtFirst() {
    Due.sentence(HEADING, TEN);
    StretchSpool x = new StretchSpool();
    none(x, 0);
    Due.perform(x, "write 4 abc");
    is(x, 0, 0, 4, 3);
    none(x, 1);
    none(x, 9);
    none(x, 10);
    none(x, Integer.MAX_VALUE);
  }

  private static void tenAreKnown() {
    Due.sentence(HEADING, TEN);
    StretchSpool x = Due.with("abcd");
    for (int times = 1; times <= 8; times++) {
      x.rewind(0, times, 1);
    }
    none(x, 9);
    is(x, 8, 0, 0, 4);
    x.rewind(0, 9, 1);
    is(x, 9, 0, 0, 4);
    none(x, 10);
    is(x, 0, 1, 0, 9);
    is(x, 8, 1, 0, 1);
    x.rewind(0, 0, 1);
    is(x, 9, 1, 0, 1);
    is(x, 0, 1, 0, 0);
    none(x, 10);
    x.cut(0, 3);
    is(x, 0, 3, 0, 1);
    is(x, 9, 1, 0, 2);
    none(x, 10);
  }

  private static void moreThanTenAtOnce() {
    Due.sentence(HEADING, TEN);
    for (int times = 8; times <= 12; times++) {
      StretchSpool x = Due.with("abcd");
      x.rewind(0, 1, times);
      for (int back = 0; back < 10; back++) {
        if (back < times) {
          is(x, back, 1, 0, 1);
        } else if (back == times) {
          is(x, back, 0, 0, 4);
        } else {
          none(x, back);
        }
      }
      none(x, 10);
    }
    StretchSpool x = Due.with("abcd");
    x.rewind(0, 1, 30);
    is(x, 9, 1, 0, 1);
    none(x, 10);
  }

  private static void tenBehindUndo() {
    Due.sentence(HEADING, TEN);
    StretchSpool x = Due.with("abcd");
    x.rewind(0, 1, 9);
    x.rewind(0, 2, 10);
    is(x, 9, 1, 0, 2);
    x.undo();
    is(x, 0, 1, 0, 1);
    is(x, 9, 0, 0, 4);
    none(x, 10);
    x.undo();
    is(x, 0, 0, 0, 4);
    none(x, 1);
    x.undo();
    none(x, 0);
  }

  /** Each event that is pushed back keeps its kind, its spool and its number. */
  private static void tenOfSeveralKindsAndSpools() {
    Due.sentence(HEADING, TEN);
    StretchSpool x = new StretchSpool();
    for (int spool = 0; spool < 5; spool++) {
      Due.perform(x, "write " + spool + " " + Due.times("c", spool + 2));
      x.rewind(spool, 9 - spool, 1);
    }
    for (int more = 1; more <= 5; more++) {
      x.punch(5 - more, more % 3);
      for (int back = 0; back < more; back++) {
        is(x, back, 6, 5 - more + back, (more - back) % 3);
      }
      for (int back = more; back < 10; back++) {
        int spool = 4 - (back - more) / 2;
        int kind = (back - more) % 2 == 0 ? 1 : 0;
        is(x, back, kind, spool, kind == 1 ? 9 - spool : spool + 2);
      }
      none(x, 10);
    }
  }

  private static final String KINDS = "The kinds of events are: 0 a wire is written,";

  private static void written() {
    Due.sentence(HEADING, KINDS);
    StretchSpool x = new StretchSpool();
    Due.perform(x, "write 0 a");
    is(x, 0, 0, 0, 1);
    Due.perform(x, "write 5 " + Due.times("a", 30));
    is(x, 0, 0, 5, 30);
    is(x, 1, 0, 0, 1);
    Due.perform(x, "write 5 a");
    Due.perform(x, "write 6 a");
    is(x, 1, 0, 0, 1);
  }

  private static void rewoundEachTime() {
    Due.sentence(HEADING, "1 rewound (one event for each time),");
    StretchSpool x = Due.with("a");
    x.rewind(0, 0, 1);
    is(x, 0, 1, 0, 0);
    is(x, 1, 0, 0, 1);
    x.rewind(0, 9, 2);
    is(x, 0, 1, 0, 9);
    is(x, 1, 1, 0, 9);
    is(x, 2, 1, 0, 0);
    Due.perform(x, "rewind 0 3");
    is(x, 0, 1, 0, 3);
    is(x, 1, 1, 0, 9);
    StretchSpool y = Due.with("a");
    y.setLimit(101);
    Due.is("broken by the second of 30", y.rewind(0, 5, 30), 2);
    is(y, 0, 2, 0, 3);
    is(y, 1, 1, 0, 5);
    is(y, 2, 1, 0, 5);
    is(y, 3, 0, 0, 1);
  }

  private static void breaksBehind() {
    Due.sentence(HEADING, "2 it breaks (behind 1),");
    StretchSpool x = new StretchSpool();
    Due.perform(x, "write 3 abcdefgh");
    x.setRule(1);
    x.setLimit(101);
    x.rewind(3, 6, 4);
    is(x, 0, 2, 3, 5);
    is(x, 1, 1, 3, 6);
    is(x, 2, 0, 3, 8);
    none(x, 3);
    x.rewind(3, 9, 1);
    is(x, 0, 2, 3, 5);
    is(x, 1, 1, 3, 9);
    is(x, 2, 2, 3, 5);
    Due.is("the one left was the whole wire", x.spool(3, 0), StretchSpool.NOT_POSSIBLE);
  }

  private static void theOtherKinds() {
    Due.sentence(HEADING, "3 cut, 4 spliced, 5 closed, 6 punched anew.");
    StretchSpool x = new StretchSpool();
    Due.perform(x, "write 2 abcde");
    x.cut(2, 3);
    is(x, 0, 3, 2, 0);
    x.close(2);
    is(x, 0, 5, 2, 3);
    x.splice(0, 2);
    is(x, 0, 4, 0, 5);
    for (int way = 0; way <= 2; way++) {
      x.punch(0, way);
      is(x, 0, 6, 0, way);
    }
    x.cut(0, 0);
    is(x, 0, 3, 0, 1);
    x.close(0);
    is(x, 0, 5, 0, 0);
    x.cut(1, 0);
    x.splice(1, 0);
    is(x, 0, 4, 1, 0);
  }

  private static void whatIsNoEvent() {
    Due.sentence(HEADING, KINDS);
    StretchSpool x = Due.with("ab");
    x.setRule(1);
    x.setLimit(150);
    x.keep();
    x.restore();
    x.type('z');
    x.perform();
    x.clearText();
    x.errorsAfter(0, 0, 9, 30);
    x.safeRewinds(0, 0, 9);
    x.rewind(0, 10, 1);
    x.cut(0, 2);
    x.splice(0, 0);
    x.close(0);
    x.punch(0, 3);
    is(x, 0, 0, 0, 2);
    none(x, 1);
  }
}
