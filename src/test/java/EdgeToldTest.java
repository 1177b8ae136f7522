/** The edges of the promises 15 to 19: spool, gap, read, errors and bestWay. */
public final class EdgeToldTest {
  private static final int UNKNOWN = StretchSpool.UNKNOWN;
  private static final int BAD_VALUE = StretchSpool.BAD_VALUE;
  private static final int NOT_POSSIBLE = StretchSpool.NOT_POSSIBLE;
  private static final int NONE = StretchSpool.NONE;
  private static final int[] NO_SPOOLS = {-1, 6, Integer.MIN_VALUE, Integer.MAX_VALUE};

  public static void main(String[] args) {
    spoolRanges();
    spoolNumbers();
    howOftenRewound();
    nearestToTheLimit();
    spoolAnswers();
    gapRanges();
    gapNumbers();
    gapAnswers();
    readRanges();
    readAnswers();
    errorsRanges();
    errorsNumbers();
    errorsAnswers();
    bestWayRange();
    bestWayNumbers();
    bestWayAnswers();
    oneBehindAnother();
    Due.end();
  }

  private static void spoolRanges() {
    Whole mixed = new Whole(Made::mixed);
    Due.sentence("Promise 15", "- `spool`: a spool");
    for (int spool : NO_SPOOLS) {
      mixed.refuses("spool " + spool, x -> x.spool(spool, 0), UNKNOWN);
      mixed.refuses("spool " + spool + ", what 7", x -> x.spool(spool, 7), UNKNOWN);
    }
    Due.sentence("Promise 15", "- `what`: 0 for its letters, 1 for whether it is closed (1, otherwise 0), 2 for the sum of the"
        + " lengths of all its gaps, 3 for the sum of their nominal lengths,");
    for (int what = 0; what <= 6; what++) {
      Due.holds("what " + what, Made.mixed().spool(0, what) >= 0);
    }
    for (int what : new int[] {-1, 7, Integer.MIN_VALUE, Integer.MAX_VALUE}) {
      mixed.refuses("what " + what, x -> x.spool(0, what), BAD_VALUE);
      mixed.refuses("what " + what + " of an empty one", x -> x.spool(5, what), BAD_VALUE);
    }
  }

  private static void tells(StretchSpool x, int spool, int... due) {
    for (int what = 0; what < due.length; what++) {
      Due.is("spool(" + spool + ", " + what + ")", x.spool(spool, what), due[what]);
    }
  }

  private static void spoolNumbers() {
    Due.sentence("Promise 15", "- `what`: 0 for its letters, 1 for whether it is closed (1, otherwise 0), 2 for the sum of the"
        + " lengths of all its gaps, 3 for the sum of their nominal lengths,");
    StretchSpool x = Made.mixed();
    tells(x, 0, 8, 1, 57548, 54000, 2, 0, 1065);
    tells(x, 1, 0, 0, 5000, 5000, 0, 0, 1000);
    tells(x, 2, 2, 0, 10000, 10000, 0, 0, 1000);
    tells(x, 3, 0, 1, 10000, 10000, 0, 0, 1000);
    tells(x, 4, 1, 1, 14000, 14000, 0, 0, 1000);
    StretchSpool full = Due.with(Due.times("h", 30));
    tells(full, 0, 30, 1, 280000, 280000, 0, 0, 1000);
    full.setLimit(200);
    full.rewind(0, 9, 21);
    tells(full, 0, 30, 1, 30 * 17568 + 2 * 9753, 280000, 21, 1, 1952);
  }

  private static final String REWOUND = "4 for how often its wire was rewound since it was written, cut off or punched anew (of a"
      + " spliced one as the first wire; what is left by a cut keeps it),";

  private static void howOftenRewound() {
    Due.sentence("Promise 15", REWOUND);
    StretchSpool x = Due.with("abcd");
    Due.is("written", x.spool(0, 4), 0);
    x.rewind(0, 1, 5);
    Due.is("rewound", x.spool(0, 4), 5);
    x.cut(0, 2);
    Due.is("left by a cut", x.spool(0, 4), 5);
    Due.is("cut off", x.spool(1, 4), 0);
    x.rewind(1, 1, 2);
    x.close(0);
    Due.is("closed", x.spool(0, 4), 5);
    x.splice(1, 0);
    Due.is("spliced, as the first wire", x.spool(1, 4), 2);
    x.cut(1, 1);
    x.splice(1, 0);
    Due.is("spliced, as the first wire", x.spool(1, 4), 2);
    x.punch(1, 0);
    Due.is("punched anew", x.spool(1, 4), 0);
    x.rewind(1, 1, 30);
    Due.is("thirty times", x.spool(1, 4), 30);
    x.rewind(1, 1, 30);
    Due.is("and thirty", x.spool(1, 4), 60);
    x.setLimit(101);
    x.setRule(1);
    Due.is("broken by the next one", x.rewind(1, 5, 1), 1);
    Due.is("which counts", x.spool(1, 4) < 0 ? 61 : x.spool(1, 4), 61);
    StretchSpool y = Due.with("abcdefgh");
    y.setRule(1);
    y.setLimit(101);
    y.rewind(0, 0, 2);
    y.rewind(0, 6, 9);
    Due.is("what is left by a break keeps it", y.spool(0, 4), 3);
    y.undo();
    Due.is("undone", y.spool(0, 4), 2);
    StretchSpool z = Due.with("a");
    z.setLimit(101);
    z.rewind(0, 9, 1);
    Due.perform(z, "write 0 b");
    Due.is("written where another one was", z.spool(0, 4), 0);
  }

  private static final String NEAREST = "5 for the gap that is nearest to its limit (the greatest length * 1000 / nominal length,"
      + " rounded down; of several the first; counted from 0), 6 for that quotient";

  private static void nearestToTheLimit() {
    Due.sentence("Promise 15", NEAREST);
    StretchSpool x = Due.with("ab");
    Due.is("of all alike the first", x.spool(0, 5), 0);
    Due.is("the quotient", x.spool(0, 6), 1000);
    x.setRule(1);
    x.rewind(0, 7, 1);
    int[] lengths = {5049, 2021, 3033, 5059};
    for (int gap = 0; gap < 4; gap++) {
      Due.is("length " + gap, x.gap(0, gap, 0), lengths[gap]);
    }
    Due.is("1009.8, 1010.5, 1011 and 1011.8: rounded down the third is the first one", x.spool(0, 5), 2);
    Due.is("the quotient", x.spool(0, 6), 1011);
    x.rewind(0, 9, 1);
    Due.is("5131, 2055, 3087 and 5154: the last one", x.spool(0, 5), 3);
    Due.is("the quotient", x.spool(0, 6), 1030);
    x.cut(0, 1);
    Due.is("the one letter that is left", x.spool(0, 5), 1);
    Due.is("its quotient", x.spool(0, 6), 1027);
    StretchSpool full = Due.with(Due.times("h", 30));
    full.setRule(1);
    full.rewind(0, 9, 1);
    Due.is("the gap 31", full.spool(0, 5), 31);
    Due.is("its quotient", full.spool(0, 6), 1044);
    full.setRule(2);
    full.rewind(0, 9, 4);
    Due.is("the gap 0", full.spool(0, 5), 0);
    StretchSpool z = Due.with("a");
    z.setLimit(200);
    Made.pull(z, 0, "99999999999999999998984");
    Due.is("at the greatest limit", z.spool(0, 6), 2000);
    Due.is("the gap at the beginning", z.spool(0, 5), 0);
  }

  private static void spoolAnswers() {
    Due.sentence("Promise 15", "Returns the number; UNKNOWN; BAD_VALUE; NOT_POSSIBLE if it is empty.");
    Whole mixed = new Whole(Made::mixed);
    Whole empty = new Whole(Made::empty);
    for (int what = 0; what <= 6; what++) {
      int one = what;
      mixed.refuses("an empty one, what " + what, x -> x.spool(5, one), NOT_POSSIBLE);
      empty.refuses("all are empty, what " + what, x -> x.spool(0, one), NOT_POSSIBLE);
    }
  }

  private static void gapRanges() {
    Whole mixed = new Whole(Made::mixed);
    Due.sentence("Promise 16", "- `spool`: a spool");
    for (int spool : NO_SPOOLS) {
      mixed.refuses("spool " + spool, x -> x.gap(spool, 0, 0), UNKNOWN);
    }
    Due.sentence("Promise 16", "- `gap`: one of its gaps, from 0");
    int[] gaps = {10, 1, 3, 2, 3, 0};
    for (int spool = 0; spool < 6; spool++) {
      int one = spool;
      for (int gap = 0; gap < gaps[spool]; gap++) {
        Due.holds("gap " + gap + " of " + spool, Made.mixed().gap(spool, gap, 0) >= 2000);
      }
      for (int gap : new int[] {-1, gaps[spool], gaps[spool] + 1, Integer.MIN_VALUE, Integer.MAX_VALUE}) {
        mixed.refuses("gap " + gap + " of " + spool, x -> x.gap(one, gap, 0), UNKNOWN);
      }
    }
    Due.sentence("Promise 16", "- `what`: 0 for its length, 1 for its nominal length, 2 for its truth (the code of the letter; NONE"
        + " of the gaps at the ends), 3 for the stretch that it would have by the rule with the pull 9");
    for (int what : new int[] {-1, 4, Integer.MIN_VALUE, Integer.MAX_VALUE}) {
      mixed.refuses("what " + what, x -> x.gap(0, 0, what), BAD_VALUE);
      mixed.refuses("what " + what + " of a letter", x -> x.gap(0, 1, what), BAD_VALUE);
      mixed.refuses("what " + what + " of no gap", x -> x.gap(0, 10, what), UNKNOWN);
      mixed.refuses("what " + what + " of an empty spool", x -> x.gap(5, 0, what), UNKNOWN);
    }
  }

  private static void gapNumbers() {
    Due.sentence("Promise 16", "- `what`: 0 for its length, 1 for its nominal length, 2 for its truth (the code of the letter; NONE"
        + " of the gaps at the ends), 3 for the stretch that it would have by the rule with the pull 9");
    StretchSpool x = Due.with("ah");
    x.rewind(0, 9, 1);
    int[][] due = {{5162, 5000, NONE, 324}, {2064, 2000, 'a', 324}, {9291, 9000, 'h', 324}, {5162, 5000, NONE, 324}};
    for (int gap = 0; gap < 4; gap++) {
      for (int what = 0; what < 4; what++) {
        Due.is("gap(0, " + gap + ", " + what + ")", x.gap(0, gap, what), due[gap][what]);
      }
    }
    x.rewind(0, 0, 1);
    Due.is("with the pull 9, not with the latest one", x.gap(0, 0, 3), 324);
    x.setRule(1);
    Due.is("the least by rule 1", x.gap(0, 0, 3), 162);
    Due.is("the last one", x.gap(0, 3, 3), 189);
    x.setRule(2);
    Due.is("by rule 2", x.gap(0, 0, 3), 189);
    Due.is("the last one", x.gap(0, 3, 3), 162);
    StretchSpool full = Made.full();
    Due.is("the greatest", full.gap(5, 31, 3), 441);
    Due.is("the truth of the last letter", full.gap(5, 30, 2), 'h');
    Due.is("the truth of the end", full.gap(5, 31, 2), NONE);
  }

  private static void gapAnswers() {
    Due.sentence("Promise 16", "Returns the number; UNKNOWN (spool or gap); BAD_VALUE.");
    Whole mixed = new Whole(Made::mixed);
    mixed.refuses("no spool", x -> x.gap(6, 0, 4), UNKNOWN);
    mixed.refuses("no gap", x -> x.gap(1, 1, 4), UNKNOWN);
    mixed.refuses("no number", x -> x.gap(1, 0, 4), BAD_VALUE);
    Due.is("the number", Made.mixed().gap(1, 0, 3), 324);
  }

  private static void readRanges() {
    Whole mixed = new Whole(Made::mixed);
    Due.sentence("Promise 17", "Reads a letter.");
    Due.sentence("Promise 17", "- `spool`: a spool");
    for (int spool : NO_SPOOLS) {
      mixed.refuses("spool " + spool, x -> x.read(spool, 0, 0), UNKNOWN);
    }
    Due.sentence("Promise 17", "- `way`: 0 to 2");
    for (int way = 0; way <= 2; way++) {
      Due.is("way " + way, Made.mixed().read(0, way, 0), 'a');
    }
    for (int way : new int[] {-1, 3, Integer.MIN_VALUE, Integer.MAX_VALUE}) {
      mixed.refuses("way " + way, x -> x.read(0, way, 0), BAD_VALUE);
    }
    Due.sentence("Promise 17", "- `letter`: a letter, from 0");
    for (int letter = 0; letter < 8; letter++) {
      Due.is("letter " + letter, Made.mixed().read(0, 2, letter), 'a' + letter);
    }
    for (int letter : new int[] {-1, 8, Integer.MIN_VALUE, Integer.MAX_VALUE}) {
      mixed.refuses("letter " + letter, x -> x.read(0, 0, letter), UNKNOWN);
      mixed.refuses("letter " + letter + " by no way", x -> x.read(0, 3, letter), UNKNOWN);
    }
    StretchSpool full = Made.full();
    Due.is("the letter 29", full.read(5, 0, 29), 'h');
    Due.is("no letter 30", full.read(5, 0, 30), UNKNOWN);
  }

  private static void readAnswers() {
    Due.sentence("Promise 17", "Returns the code of the letter that is read, or of \"?\" if it cannot be read; UNKNOWN (spool or"
        + " letter: it has fewer); BAD_VALUE; NOT_POSSIBLE if it cannot be read by this way (it is open).");
    for (int number = 0; number <= 7; number++) {
      Due.is("code " + number, Due.with("" + (char) (97 + number)).read(0, 0, 0), 97 + number);
    }
    Due.is("beyond h", Made.withLetter("883", 9500, "h").read(1, 0, 0), 63);
    Due.is("below a", Made.withBeginning("9999999992", 6667, "a").read(0, 0, 0), 63);
    Whole mixed = new Whole(Made::mixed);
    mixed.refuses("an empty spool", x -> x.read(5, 0, 0), UNKNOWN);
    mixed.refuses("no letters", x -> x.read(1, 0, 0), UNKNOWN);
    mixed.refuses("no letters, by both ends", x -> x.read(3, 2, 0), UNKNOWN);
    mixed.refuses("one letter", x -> x.read(4, 2, 1), UNKNOWN);
    mixed.refuses("open", x -> x.read(2, 2, 0), NOT_POSSIBLE);
    mixed.refuses("open, the last letter", x -> x.read(2, 2, 1), NOT_POSSIBLE);
    Due.is("open, by the way 0", Made.mixed().read(2, 0, 1), 'b');
    Due.is("open, by the way 1", Made.mixed().read(2, 1, 1), 'b');
  }

  private static void errorsRanges() {
    Whole mixed = new Whole(Made::mixed);
    Due.sentence("Promise 18", "- `spool`: a spool");
    for (int spool : NO_SPOOLS) {
      mixed.refuses("spool " + spool, x -> x.errors(spool, 0, 0), UNKNOWN);
    }
    Due.sentence("Promise 18", "- `way`: 0 to 2");
    for (int way = 0; way <= 2; way++) {
      Due.is("way " + way, Made.mixed().errors(0, way, 0), 0);
    }
    for (int way : new int[] {-1, 3, Integer.MIN_VALUE, Integer.MAX_VALUE}) {
      mixed.refuses("way " + way, x -> x.errors(0, way, 0), BAD_VALUE);
    }
    Due.sentence("Promise 18", "- `what`: 0 for the letters that are misread, 1 for those that cannot be read, 2 for the first one"
        + " that is either (NONE if there is none)");
    for (int what : new int[] {-1, 3, Integer.MIN_VALUE, Integer.MAX_VALUE}) {
      mixed.refuses("what " + what, x -> x.errors(0, 0, what), BAD_VALUE);
    }
  }

  private static void errors(StretchSpool x, int way, int misread, int unread, int first) {
    Due.is("misread", x.errors(0, way, 0), misread);
    Due.is("unreadable", x.errors(0, way, 1), unread);
    Due.is("the first", x.errors(0, way, 2), first);
  }

  private static void errorsNumbers() {
    Due.sentence("Promise 18", "- `what`: 0 for the letters that are misread, 1 for those that cannot be read, 2 for the first one"
        + " that is either (NONE if there is none)");
    for (int way = 0; way <= 2; way++) {
      errors(Due.with("abcdefgh"), way, 0, 0, NONE);
    }
    errors(Made.withBeginning("9999999992", 6667, "abbc"), 0, 3, 1, 0);
    errors(Made.withBeginning("9999999992", 6667, "dabc"), 0, 3, 1, 0);
    errors(Made.withBeginning("99998662", 6001, "ab"), 0, 1, 0, 1);
    errors(Made.withBeginning("99998662", 6001, "ba"), 0, 1, 0, 0);
    errors(Made.withBeginning("99998662", 6001, "aa"), 0, 0, 0, NONE);
    errors(Made.withBeginning("9999999992", 6667, "aa"), 0, 0, 2, 0);
    errors(Made.withBeginning("99998662", 6001, Due.times("a", 29) + "b"), 0, 1, 0, 29);
    errors(Made.withBeginning("99998662", 6001, Due.times("b", 30)), 0, 30, 0, 0);
    errors(Made.withBeginning("9999999992", 6667, Due.times("a", 30)), 1, 0, 30, 0);
    StretchSpool none = Due.with("a");
    none.cut(0, 0);
    errors(none, 0, 0, 0, NONE);
    errors(none, 1, 0, 0, NONE);
    none.close(0);
    errors(none, 2, 0, 0, NONE);
  }

  private static void errorsAnswers() {
    Due.sentence("Promise 18", "Returns the number; UNKNOWN; BAD_VALUE; NOT_POSSIBLE if it is empty, or cannot be read by this way"
        + " (it is open).");
    Whole mixed = new Whole(Made::mixed);
    for (int what = 0; what <= 2; what++) {
      int one = what;
      for (int way = 0; way <= 2; way++) {
        int by = way;
        mixed.refuses("an empty spool", x -> x.errors(5, by, one), NOT_POSSIBLE);
      }
      mixed.refuses("open", x -> x.errors(2, 2, one), NOT_POSSIBLE);
      mixed.refuses("open and without letters", x -> x.errors(1, 2, one), NOT_POSSIBLE);
      Due.is("closed and without letters", Made.mixed().errors(3, 2, what), what == 2 ? NONE : 0);
      Due.is("open, by the way 0", Made.mixed().errors(2, 0, what), what == 2 ? NONE : 0);
      Due.is("open, by the way 1", Made.mixed().errors(2, 1, what), what == 2 ? NONE : 0);
    }
  }

  private static void bestWayRange() {
    Due.sentence("Promise 19", "- `spool`: a spool");
    Whole mixed = new Whole(Made::mixed);
    for (int spool : NO_SPOOLS) {
      mixed.refuses("spool " + spool, x -> x.bestWay(spool), UNKNOWN);
    }
  }

  private static void best(StretchSpool x, int zero, int one, int two, int due) {
    int[] errors = {zero, one, two};
    for (int way = 0; way <= 2; way++) {
      int found = x.errors(0, way, 0) + (errors[way] < 0 ? 0 : x.errors(0, way, 1));
      Due.is("errors by the way " + way, found, errors[way]);
    }
    Due.is("the best way", x.bestWay(0), due);
  }

  private static void bestWayNumbers() {
    Due.sentence("Promise 19", "Finds the way of reading with the fewest letters that are misread or cannot be read.");
    best(Due.with("abh"), 0, 0, 0, 0);
    best(Made.withBeginning("99", 5329, "eeeh"), 1, 0, 0, 1);
    best(Made.withBeginning("9999886999", 6666, "bb"), 2, 2, 1, 2);
    best(Made.withBeginning("9999999992", 6667, "abb"), 3, 3, 0, 2);
    StretchSpool open = Made.withBeginning("9999886999", 6666, "bbb");
    open.cut(0, 2);
    best(open, 2, 2, NOT_POSSIBLE, 0);
    StretchSpool one = Made.withBeginning("99", 5329, "eeehb");
    one.cut(0, 4);
    best(one, 1, 0, NOT_POSSIBLE, 1);
    StretchSpool thirty = Made.withBeginning("999999", 6051, Due.times("b", 30));
    Due.perform(thirty, "write 3 a");
    thirty.cut(3, 0);
    thirty.close(3);
    Made.pull(thirty, 3, "9999973");
    thirty.splice(0, 3);
    best(thirty, 30, 30, 29, 2);
    StretchSpool none = Due.with("a");
    none.cut(0, 0);
    best(none, 0, 0, NOT_POSSIBLE, 0);
    none.close(0);
    best(none, 0, 0, 0, 0);
  }

  private static void bestWayAnswers() {
    Due.sentence("Promise 19", "Returns the way, the lowest one of several; UNKNOWN; NOT_POSSIBLE if it is empty.");
    best(Made.withBeginning("99998662", 6001, Due.times("b", 2)), 2, 2, 0, 2);
    best(Made.withBeginning("99998662", 6001, "a"), 0, 0, 0, 0);
    best(Made.withBeginning("99", 5329, "eeeh"), 1, 0, 0, 1);
    Whole mixed = new Whole(Made::mixed);
    mixed.refuses("an empty spool", x -> x.bestWay(5), NOT_POSSIBLE);
    new Whole(Made::empty).refuses("all are empty", x -> x.bestWay(0), NOT_POSSIBLE);
  }

  /** What is told of one wire does not hang on what was told of another one before. */
  private static void oneBehindAnother() {
    Due.sentence("Promise 18", "Returns the number;");
    StretchSpool x = Made.withBeginning("9999999992", 6667, "abbaabbaabbc");
    Due.perform(x, "write 4 ha");
    for (int time = 0; time < 2; time++) {
      errors(x, 0, 7, 5, 0);
      Due.is("none of the other one", x.errors(4, 0, 2), NONE);
      Due.is("misread", x.errors(4, 0, 0), 0);
      Due.is("read of the first one", x.read(0, 0, 11), 'b');
      Due.is("no letter 2 of the other one", x.read(4, 0, 2), UNKNOWN);
      Due.is("read of the other one", x.read(4, 0, 1), 'a');
      Due.is("read of the first one", x.read(0, 0, 0), '?');
      Due.is("safe for the other one", x.safeRewinds(4, 0, 0), 30);
      Due.is("errors of the first one then", x.errorsAfter(0, 0, 0, 1), 12);
      Due.is("safe for the other one", x.safeRewinds(4, 1, 0), 30);
      Due.is("errors of the other one then", x.errorsAfter(4, 0, 0, 1), 0);
      Due.is("safe for the first one", x.safeRewinds(0, 0, 0), 30);
      Due.is("the best way of the first one", x.bestWay(0), 2);
      Due.is("the best way of the other one", x.bestWay(4), 0);
      Due.is("punched: the first one cannot be", x.punch(0, 0), NOT_POSSIBLE);
      Due.is("punched: the other one can be", x.punch(4, 0), 0);
    }
  }
}
