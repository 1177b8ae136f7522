/** The edges of the promises 4 to 8: rewind, cut, splice, close and punch. */
public final class EdgeWireCallsTest {
  private static final int UNKNOWN = StretchSpool.UNKNOWN;
  private static final int BAD_VALUE = StretchSpool.BAD_VALUE;
  private static final int NOT_POSSIBLE = StretchSpool.NOT_POSSIBLE;
  private static final int[] NO_SPOOLS = {-1, 6, Integer.MIN_VALUE, Integer.MAX_VALUE};

  public static void main(String[] args) {
    rewindAgainAndAgain();
    rewindUntilItBreaks();
    rewindRanges();
    rewindAnswers();
    cutRanges();
    cutAnswers();
    spliceRanges();
    spliceAnswers();
    closeRange();
    closeAnswers();
    punchRanges();
    punchAnswers();
    punchNotPossible();
    acts();
    Due.end();
  }

  private static void rewindAgainAndAgain() {
    Due.sentence("Promise 4", "Rewinds a spool, again and again,");
    StretchSpool x = Due.with("ab");
    StretchSpool y = Due.with("ab");
    Due.is("seven times", x.rewind(0, 6, 7), 7);
    for (int time = 0; time < 7; time++) {
      Due.is("once", y.rewind(0, 6, 1), 1);
    }
    for (int gap = 0; gap < 4; gap++) {
      Due.is("the same length " + gap, x.gap(0, gap, 0), y.gap(0, gap, 0));
    }
    Due.is("the same minutes", x.count(2), y.count(2));
    Due.is("rewinds", x.count(4), 7);
    Due.is("of this wire", x.spool(0, 4), 7);
    Due.is("another one is left alone", Due.perform(x, "write 1 c") + x.spool(1, 4), 1);
  }

  /** By the pull 9 a gap of 5000 is 6491 long by eight rewinds, and 6701 by the next one. */
  private static void rewindUntilItBreaks() {
    Due.sentence("Promise 4", "or until its wire breaks.");
    StretchSpool x = Due.with("ab");
    Due.is("eight are possible", x.safeRewinds(0, 0, 9), 8);
    Due.is("the ninth breaks it", x.rewind(0, 9, 30), 9);
    Due.is("rewinds", x.count(4), 9);
    Due.is("minutes", x.count(2), 9);
    Due.is("nothing is left to rewind", x.rewind(0, 9, 30), NOT_POSSIBLE);
    StretchSpool y = Due.with("ab");
    Due.is("just eight", y.rewind(0, 9, 8), 8);
    Due.is("whole", y.count(5), 0);
    Due.is("just one more", y.rewind(0, 9, 1), 1);
    Due.is("broken", y.count(5), 1);
    StretchSpool z = Due.with("ab");
    Due.is("just nine", z.rewind(0, 9, 9), 9);
    Due.is("broken", z.count(5), 1);
    StretchSpool rest = Due.with("abcdefgh");
    rest.setRule(1);
    rest.setLimit(101);
    Due.is("what is left of a broken wire is not rewound on", rest.rewind(0, 6, 30), 1);
    Due.is("one rewind", rest.spool(0, 4), 1);
    Due.is("but by the next call", rest.rewind(0, 0, 2), 2);
    Due.is("three rewinds", rest.spool(0, 4), 3);
  }

  private static void rewindRanges() {
    Whole mixed = new Whole(Made::mixed);
    Due.sentence("Promise 4", "- `spool`: a spool");
    for (int spool : NO_SPOOLS) {
      mixed.refuses("spool " + spool, x -> x.rewind(spool, 9, 1), UNKNOWN);
    }
    Due.sentence("Promise 4", "- `pull`: 0 to 9");
    for (int pull = 0; pull <= 9; pull++) {
      Due.is("pull " + pull, Due.with("a").rewind(0, pull, 1), 1);
    }
    for (int pull : new int[] {-1, 10, -9, Integer.MIN_VALUE, Integer.MAX_VALUE}) {
      mixed.refuses("pull " + pull, x -> x.rewind(0, pull, 1), BAD_VALUE);
    }
    Due.sentence("Promise 4", "- `times`: 1 to 30");
    for (int times = 1; times <= 30; times++) {
      StretchSpool x = Due.with("a");
      Due.is("times " + times, x.rewind(0, 0, times), times);
      Due.is("rewinds", x.count(4), times);
    }
    for (int times : new int[] {0, 31, -1, Integer.MIN_VALUE, Integer.MAX_VALUE}) {
      mixed.refuses("times " + times, x -> x.rewind(0, 1, times), BAD_VALUE);
    }
  }

  private static void rewindAnswers() {
    Due.sentence("Promise 4", "Returns how often it is rewound, with the time by which it breaks; UNKNOWN; BAD_VALUE;"
        + " NOT_POSSIBLE if it is empty.");
    StretchSpool x = Due.with("ab");
    x.setLimit(101);
    Due.is("by the first time", x.rewind(0, 9, 30), 1);
    Whole empty = new Whole(Made::empty);
    for (int spool = 0; spool < 6; spool++) {
      int one = spool;
      empty.refuses("an empty one", y -> y.rewind(one, 0, 1), NOT_POSSIBLE);
    }
    StretchSpool z = Due.with("ab");
    z.setLimit(102);
    Due.is("by the third", z.rewind(0, 5, 30), 3);
    StretchSpool w = Due.with("a");
    w.setLimit(200);
    Due.is("never: 30", w.rewind(0, 6, 30), 30);
    w.cut(0, 0);
    Due.is("a wire without letters", w.rewind(0, 0, 2), 2);
  }

  private static void cutRanges() {
    Whole mixed = new Whole(Made::mixed);
    Due.sentence("Promise 5", "- `spool`: a spool");
    for (int spool : NO_SPOOLS) {
      mixed.refuses("spool " + spool, x -> x.cut(spool, 0), UNKNOWN);
    }
    Due.sentence("Promise 5", "- `letter`: the first letter that goes to the other spool, from 0");
    for (int letter = 0; letter < 8; letter++) {
      StretchSpool x = Made.mixed();
      Due.is("letter " + letter, x.cut(0, letter), 5);
      Due.is("letters that stay", x.spool(0, 0), letter);
      Due.is("the first one that goes", x.gap(5, 1, 2), 'a' + letter);
    }
    for (int letter : new int[] {-1, 8, 9, Integer.MIN_VALUE, Integer.MAX_VALUE}) {
      mixed.refuses("letter " + letter, x -> x.cut(0, letter), UNKNOWN);
    }
  }

  private static void cutAnswers() {
    Due.sentence("Promise 5", "Cuts a wire.");
    Due.sentence("Promise 5", "Returns the other spool; UNKNOWN (spool or letter: it has fewer); FULL if no spool is empty.");
    StretchSpool x = new StretchSpool();
    Due.perform(x, "write 5 aaaaaaa");
    for (int spool = 0; spool < 5; spool++) {
      Due.is("the other spool", x.cut(5, 6 - spool), spool);
    }
    Due.is("no more room", x.cut(5, 1), StretchSpool.FULL);
    Due.is("no such letter", x.cut(5, 2), UNKNOWN);
    Whole mixed = new Whole(Made::mixed);
    mixed.refuses("no letter at all", y -> y.cut(1, 0), UNKNOWN);
    mixed.refuses("no letter at all, closed", y -> y.cut(3, 0), UNKNOWN);
    mixed.refuses("an empty spool has fewer", y -> y.cut(5, 0), UNKNOWN);
    mixed.refuses("as many letters as the number", y -> y.cut(4, 1), UNKNOWN);
    Whole full = new Whole(Made::full);
    full.refuses("full", y -> y.cut(5, 29), StretchSpool.FULL);
    full.refuses("full, at the first letter", y -> y.cut(0, 0), StretchSpool.FULL);
  }

  private static void spliceRanges() {
    Whole mixed = new Whole(Made::mixed);
    Due.sentence("Promise 6", "- `spool`: the spool of the first wire");
    for (int spool : NO_SPOOLS) {
      mixed.refuses("spool " + spool, x -> x.splice(spool, 0), UNKNOWN);
      mixed.refuses("both " + spool, x -> x.splice(spool, spool), UNKNOWN);
    }
    Due.sentence("Promise 6", "- `other`: the spool of the second one");
    for (int other : NO_SPOOLS) {
      mixed.refuses("other " + other, x -> x.splice(0, other), UNKNOWN);
      mixed.refuses("other " + other + " to an empty one", x -> x.splice(5, other), UNKNOWN);
    }
    StretchSpool x = Made.mixed();
    Due.is("the first and the second one", x.splice(4, 0), 9);
    Due.is("the letters of the first one", x.gap(4, 1, 2), 'c');
    Due.is("ahead of those of the second one", x.gap(4, 2, 2), 'a');
  }

  private static void spliceAnswers() {
    Due.sentence("Promise 6", "Splices a wire to another one.");
    Due.sentence("Promise 6", "Returns the letters of the wire then; UNKNOWN (spool or other); BAD_VALUE if both are the same;"
        + " NOT_POSSIBLE if one is empty; FULL if there would be more than 30 letters.");
    StretchSpool x = Made.mixed();
    Due.is("none and none", x.splice(1, 3), 0);
    Due.is("none and one", x.splice(1, 4), 1);
    Due.is("one and two", x.splice(1, 2), 3);
    Due.is("eight and three", x.splice(0, 1), 11);
    Whole mixed = new Whole(Made::mixed);
    for (int spool = 0; spool < 6; spool++) {
      int same = spool;
      mixed.refuses("both are " + spool, y -> y.splice(same, same), BAD_VALUE);
      if (spool < 5) {
        mixed.refuses("the second one is empty", y -> y.splice(same, 5), NOT_POSSIBLE);
        mixed.refuses("the first one is empty", y -> y.splice(5, same), NOT_POSSIBLE);
      }
    }
    Whole empty = new Whole(Made::empty);
    empty.refuses("both are empty", y -> y.splice(0, 1), NOT_POSSIBLE);
    Due.is("28 and 2", joined(28, 2), 30);
    Due.is("28 and 3", joined(28, 3), StretchSpool.FULL);
    Due.is("2 and 28", joined(2, 28), 30);
    Due.is("3 and 28", joined(3, 28), StretchSpool.FULL);
    Whole more = new Whole(() -> twoWires(16, 15));
    more.refuses("31 letters", y -> y.splice(0, 1), StretchSpool.FULL);
    more.refuses("31 letters, the other way", y -> y.splice(1, 0), StretchSpool.FULL);
    StretchSpool thirty = twoWires(30, 1);
    thirty.cut(1, 0);
    Due.is("30 and none", thirty.splice(0, 1), 30);
    Due.is("open then", thirty.spool(0, 1), 0);
    StretchSpool none = twoWires(30, 1);
    none.cut(1, 0);
    Due.is("none and 30", none.splice(1, 0), 30);
  }

  private static StretchSpool twoWires(int first, int second) {
    StretchSpool x = Due.with(Due.times("a", first));
    Due.perform(x, "write 1 " + Due.times("b", second));
    return x;
  }

  private static int joined(int first, int second) {
    return twoWires(first, second).splice(0, 1);
  }

  private static void closeRange() {
    Due.sentence("Promise 7", "- `spool`: a spool");
    Whole mixed = new Whole(Made::mixed);
    for (int spool : NO_SPOOLS) {
      mixed.refuses("spool " + spool, x -> x.close(spool), UNKNOWN);
    }
  }

  private static void closeAnswers() {
    Due.sentence("Promise 7", "Closes a wire.");
    Due.sentence("Promise 7", "Returns its letters; UNKNOWN; NOT_POSSIBLE if it is empty; NONE if it is closed already.");
    Due.is("none", Made.mixed().close(1), 0);
    Due.is("two", Made.mixed().close(2), 2);
    StretchSpool x = Made.mixed();
    x.close(1);
    Due.is("once closed", x.close(1), StretchSpool.NONE);
    Due.is("its end", x.gap(1, 1, 0), 5000);
    Whole mixed = new Whole(Made::mixed);
    mixed.refuses("closed with eight letters", y -> y.close(0), StretchSpool.NONE);
    mixed.refuses("closed with none", y -> y.close(3), StretchSpool.NONE);
    mixed.refuses("empty", y -> y.close(5), NOT_POSSIBLE);
  }

  private static void punchRanges() {
    Whole mixed = new Whole(Made::mixed);
    Due.sentence("Promise 8", "- `spool`: a spool");
    for (int spool : NO_SPOOLS) {
      mixed.refuses("spool " + spool, x -> x.punch(spool, 0), UNKNOWN);
    }
    Due.sentence("Promise 8", "- `way`: 0 to 2");
    for (int way = 0; way <= 2; way++) {
      StretchSpool x = Made.mixed();
      Due.is("way " + way, x.punch(0, way), 0);
      Due.is("its event", x.event(0, 2), way);
    }
    for (int way : new int[] {-1, 3, Integer.MIN_VALUE, Integer.MAX_VALUE}) {
      mixed.refuses("way " + way, x -> x.punch(0, way), BAD_VALUE);
      mixed.refuses("way " + way + " of an empty one", x -> x.punch(5, way), BAD_VALUE);
    }
  }

  private static void punchAnswers() {
    Due.sentence("Promise 8", "Punches a wire anew.");
    Due.sentence("Promise 8", "Returns how many letters are punched as another one than their truth;");
    Due.is("none", Due.with("abh").punch(0, 0), 0);
    Due.is("one of two", Made.withBeginning("99", 5329, "eh").punch(0, 0), 1);
    Due.is("all of three", Made.withBeginning("9999886999", 6666, "bbb").punch(0, 0), 3);
    StretchSpool x = Made.withBeginning("9999886999", 6666, "bbb");
    x.punch(0, 0);
    Due.is("than their truth, not than they were", x.punch(0, 0), 3);
    Due.is("a wire without letters", Made.mixed().punch(1, 0), 0);
  }

  private static void punchNotPossible() {
    Due.sentence("Promise 8", "UNKNOWN; BAD_VALUE; NOT_POSSIBLE if it is empty, cannot be read by this way (it is open), or a"
        + " letter cannot be read.");
    Whole mixed = new Whole(Made::mixed);
    for (int way = 0; way <= 2; way++) {
      int by = way;
      mixed.refuses("empty, by " + way, x -> x.punch(5, by), NOT_POSSIBLE);
    }
    mixed.refuses("open, by both ends", x -> x.punch(2, 2), NOT_POSSIBLE);
    mixed.refuses("open and without letters, by both ends", x -> x.punch(1, 2), NOT_POSSIBLE);
    Due.is("open, by the way 1", Made.mixed().punch(2, 1), 0);
    Due.is("closed and without letters, by both ends", Made.mixed().punch(3, 2), 0);
    Whole letter = new Whole(() -> Made.withBeginning("9999999992", 6667, "a"));
    letter.refuses("its only letter, by 0", x -> x.punch(0, 0), NOT_POSSIBLE);
    letter.refuses("its only letter, by 1", x -> x.punch(0, 1), NOT_POSSIBLE);
    Due.is("by both ends it can be read", Made.withBeginning("9999999992", 6667, "a").punch(0, 2), 0);
  }

  private static void acts() {
    StretchSpool x = Due.with("abcd");
    Due.sentence("Promise 4", "This is an act.");
    x.rewind(0, 9, 3);
    Due.is("recorded once", x.count(9), 2);
    x.rewind(0, 9, 0);
    x.rewind(1, 9, 1);
    Due.is("errors are not", x.count(9), 2);
    Due.is("undone", x.undo(), 1);
    Due.is("rewinds", x.spool(0, 4), 0);
    Due.sentence("Promise 5", "This is an act.");
    x.cut(0, 2);
    Due.is("recorded once", x.count(9), 2);
    x.cut(0, 2);
    Due.is("errors are not", x.count(9), 2);
    Due.sentence("Promise 7", "This is an act.");
    x.close(0);
    Due.is("recorded once", x.count(9), 3);
    x.close(0);
    x.close(5);
    Due.is("NONE and errors are not", x.count(9), 3);
    Due.is("undone", x.undo(), 2);
    Due.is("open", x.spool(0, 1), 0);
    Due.sentence("Promise 6", "This is an act.");
    x.splice(0, 1);
    Due.is("recorded once", x.count(9), 3);
    x.splice(0, 0);
    x.splice(0, 1);
    Due.is("errors are not", x.count(9), 3);
    Due.is("undone", x.undo(), 2);
    Due.is("two wires", x.count(0), 2);
    Due.sentence("Promise 8", "This is an act.");
    x.punch(1, 2);
    Due.is("recorded once", x.count(9), 3);
    x.punch(0, 2);
    x.punch(0, 3);
    Due.is("errors are not", x.count(9), 3);
    Due.is("undone", x.undo(), 2);
    Due.is("the latest event is the cut", x.event(0, 0), 3);
  }
}
