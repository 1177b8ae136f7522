/** Promise 4: rewind. */
public final class Promise04RewindTest {
  public static void main(String[] args) {
    wrongValues();
    minutesAndLengths();
    breakInTheMiddle();
    breakOfTheEnd();
    breakAtTheFirstLetter();
    breakAtTheBeginning();
    stretchIsByTheGapsThatAreLeft();
    Due.end();
  }

  private static void wrongValues() {
    StretchSpool x = Due.with("abh");
    String before = Due.all(x);
    Due.is("rewind(-1, 1, 1)", x.rewind(-1, 1, 1), StretchSpool.UNKNOWN);
    Due.is("rewind(6, 10, 0)", x.rewind(6, 10, 0), StretchSpool.UNKNOWN);
    Due.is("rewind(0, -1, 1)", x.rewind(0, -1, 1), StretchSpool.BAD_VALUE);
    Due.is("rewind(0, 10, 1)", x.rewind(0, 10, 1), StretchSpool.BAD_VALUE);
    Due.is("rewind(0, 1, 0)", x.rewind(0, 1, 0), StretchSpool.BAD_VALUE);
    Due.is("rewind(0, 1, 31)", x.rewind(0, 1, 31), StretchSpool.BAD_VALUE);
    Due.is("rewind(1, 1, 31)", x.rewind(1, 1, 31), StretchSpool.BAD_VALUE);
    Due.is("rewind(1, 10, 1)", x.rewind(1, 10, 1), StretchSpool.BAD_VALUE);
    Due.is("rewind(1, 1, 1)", x.rewind(1, 1, 1), StretchSpool.NOT_POSSIBLE);
    Due.holds("errors change nothing", before.equals(Due.all(x)));
  }

  private static void minutesAndLengths() {
    StretchSpool x = Due.with("abh");
    Due.is("rewind(0, 9, 1)", x.rewind(0, 9, 1), 1);
    int[] once = {5162, 2064, 3097, 9291, 5162};
    for (int gap = 0; gap < once.length; gap++) {
      Due.is("length " + gap, x.gap(0, gap, 0), once[gap]);
    }
    Due.is("a minute", x.count(2), 1);
    Due.is("rewind(0, 9, 1)", x.rewind(0, 9, 1), 1);
    int[] twice = {5329, 2130, 3197, 9592, 5329};
    for (int gap = 0; gap < twice.length; gap++) {
      Due.is("length " + gap + " then", x.gap(0, gap, 0), twice[gap]);
    }
    Due.is("rewind(0, 0, 30)", x.rewind(0, 0, 30), 30);
    Due.is("the pull 0 stretches nothing", x.gap(0, 3, 0), 9592);
    Due.is("and takes ten minutes each", x.count(2), 302);
    Due.is("rewinds of the wire", x.spool(0, 4), 32);
    Due.is("rewinds in all", x.count(4), 32);
    Due.is("no break", x.count(5), 0);
    Due.is("the wire used stays", x.count(3), 24000);
    Due.is("nominal lengths stay", x.spool(0, 3), 24000);
    Due.is("one state for each call", x.count(9), 4);
  }

  /** By rule 1 and the pull 6 the gap k stretches by 72 + 6 * k: the gap 5 is beyond 101 first. */
  private static void breakInTheMiddle() {
    StretchSpool x = Due.with("abcdefgh");
    x.setRule(1);
    x.setLimit(101);
    Due.is("rewind(0, 6, 30)", x.rewind(0, 6, 30), 1);
    int[] left = {5036, 2015, 3025, 4036, 5048};
    for (int gap = 0; gap < left.length; gap++) {
      Due.is("length " + gap, x.gap(0, gap, 0), left[gap]);
    }
    Due.is("the gap 5 is lost", x.gap(0, 5, 0), StretchSpool.UNKNOWN);
    Due.is("letters left", x.spool(0, 0), 4);
    Due.is("it is open", x.spool(0, 1), 0);
    Due.is("its rewinds are kept", x.spool(0, 4), 1);
    Due.is("breaks", x.count(5), 1);
    Due.is("letters lost", x.count(6), 4);
    Due.is("minutes", x.count(2), 4);
    Due.is("the latest event is the break", x.event(0, 0), 2);
    Due.is("gaps lost", x.event(0, 2), 5);
    Due.is("behind the rewind", x.event(1, 0), 1);
    Due.is("with its pull", x.event(1, 2), 6);
    x.undo();
    Due.is("undone: letters", x.spool(0, 0), 8);
    Due.is("undone: closed", x.spool(0, 1), 1);
    Due.is("undone: letters lost", x.count(6), 0);
  }

  /** The gap at the end alone is beyond 101: it stretches by 72 + 6 * 5, the last letter by 96. */
  private static void breakOfTheEnd() {
    StretchSpool x = Due.with("aaaa");
    x.setRule(1);
    x.setLimit(101);
    Due.is("rewind(0, 6, 2)", x.rewind(0, 6, 2), 1);
    Due.is("letters", x.spool(0, 0), 4);
    Due.is("open", x.spool(0, 1), 0);
    Due.is("no letter lost", x.count(6), 0);
    Due.is("one gap lost", x.event(0, 2), 1);
    Due.is("spool of the event", x.event(0, 1), 0);
  }

  /** By rule 1 and the pull 7 the beginning stretches by 98, the first letter by 105. */
  private static void breakAtTheFirstLetter() {
    StretchSpool x = Due.with("aaaa");
    x.setRule(1);
    x.setLimit(101);
    Due.is("rewind(0, 7, 2)", x.rewind(0, 7, 2), 1);
    Due.is("a wire without letters is left", x.spool(0, 0), 0);
    Due.is("its one gap", x.spool(0, 2), 5049);
    Due.is("letters lost", x.count(6), 4);
    Due.is("gaps lost", x.event(0, 2), 5);
  }

  private static void breakAtTheBeginning() {
    StretchSpool x = Due.with("aaaa");
    x.setRule(2);
    x.setLimit(101);
    Due.is("rewind(0, 6, 2)", x.rewind(0, 6, 2), 1);
    Due.is("the spool is empty", x.spool(0, 0), StretchSpool.NOT_POSSIBLE);
    Due.is("no spool with a wire", x.count(0), 0);
    Due.is("no letter", x.count(1), 0);
    Due.is("letters lost", x.count(6), 4);
    Due.is("gaps lost", x.event(0, 2), 6);
    Due.is("rewinds so far", x.count(4), 1);
    Due.is("it can be written on", Due.perform(x, "write 0 bb"), 2);
    Due.is("a new wire was not rewound", x.spool(0, 4), 0);
  }

  /** By rule 2 the stretch hangs on n, which a break makes smaller. */
  private static void stretchIsByTheGapsThatAreLeft() {
    StretchSpool x = Due.with("abcdefgh");
    x.setRule(1);
    x.setLimit(101);
    x.rewind(0, 6, 1);
    x.setRule(2);
    for (int gap = 0; gap < 5; gap++) {
      Due.is("stretch of gap " + gap, x.gap(0, gap, 3), 162 + 9 * (4 - gap));
    }
  }
}
