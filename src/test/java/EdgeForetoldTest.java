import java.util.function.Supplier;

/** The edges of the promises 20 and 21: errorsAfter and safeRewinds. */
public final class EdgeForetoldTest {
  private static final int UNKNOWN = StretchSpool.UNKNOWN;
  private static final int BAD_VALUE = StretchSpool.BAD_VALUE;
  private static final int NOT_POSSIBLE = StretchSpool.NOT_POSSIBLE;
  private static final int[] NO_SPOOLS = {-1, 6, Integer.MIN_VALUE, Integer.MAX_VALUE};

  public static void main(String[] args) {
    errorsAfterRanges();
    errorsAfterTimes();
    asByRewind();
    lostLettersCount();
    errorsAfterAnswers();
    errorsAfterChangesNothing();
    safeRewindsRanges();
    behindEachOfThese();
    readAsTheyAreNow();
    whatCannotBeReadNow();
    theWireIsWhole();
    atMostThirty();
    safeRewindsAnswers();
    Due.end();
  }

  private static void errorsAfterRanges() {
    Whole mixed = new Whole(Made::mixed);
    Due.sentence("Promise 20", "- `spool`: a spool");
    for (int spool : NO_SPOOLS) {
      mixed.refuses("spool " + spool, x -> x.errorsAfter(spool, 0, 0, 0), UNKNOWN);
    }
    Due.sentence("Promise 20", "- `way`: 0 or 1");
    Due.is("way 0", Made.mixed().errorsAfter(0, 0, 9, 1), 0);
    Due.is("way 1", Made.mixed().errorsAfter(0, 1, 9, 1), 0);
    for (int way : new int[] {-1, 2, 3, Integer.MIN_VALUE, Integer.MAX_VALUE}) {
      mixed.refuses("way " + way, x -> x.errorsAfter(0, way, 9, 1), BAD_VALUE);
    }
    Due.sentence("Promise 20", "- `pull`: 0 to 9");
    for (int pull = 0; pull <= 9; pull++) {
      Due.is("pull " + pull, Made.mixed().errorsAfter(0, 0, pull, 1), 0);
    }
    for (int pull : new int[] {-1, 10, Integer.MIN_VALUE, Integer.MAX_VALUE}) {
      mixed.refuses("pull " + pull, x -> x.errorsAfter(0, 0, pull, 1), BAD_VALUE);
    }
    Due.sentence("Promise 20", "- `times`: 0 to 30");
    for (int times = 0; times <= 30; times++) {
      Due.is("times " + times, Made.mixed().errorsAfter(0, 0, 0, times), 0);
    }
    for (int times : new int[] {-1, 31, Integer.MIN_VALUE, Integer.MAX_VALUE}) {
      mixed.refuses("times " + times, x -> x.errorsAfter(0, 0, 0, times), BAD_VALUE);
    }
  }

  /** By the pull 5 an a over 6667 cannot be read now, can be by the first two rewinds, and never after. */
  private static void errorsAfterTimes() {
    Due.sentence("Promise 20", "- `times`: 0 to 30");
    StretchSpool x = Made.withBeginning("9999999992", 6667, "a");
    int[] due = {1, 0, 0, 1, 1};
    for (int times = 0; times < due.length; times++) {
      Due.is("times " + times, x.errorsAfter(0, 0, 5, times), due[times]);
      Due.is("times " + times + ", way 1", x.errorsAfter(0, 1, 5, times), due[times]);
    }
    Due.is("times 30", x.errorsAfter(0, 0, 5, 30), 1);
    Due.is("now as errors tells", x.errors(0, 0, 1), 1);
    StretchSpool y = Made.withBeginning("9999886999", 6666, "aa");
    for (int times = 0; times <= 3; times++) {
      Due.is("times " + times, y.errorsAfter(0, 0, 5, times), 0);
    }
    Due.is("times 4", y.errorsAfter(0, 0, 5, 4), 2);
    StretchSpool z = Made.withBeginning("99", 5329, "ah");
    z.setRule(1);
    Due.is("a misread one", z.errorsAfter(0, 0, 9, 0), 1);
    Due.is("is misread three times more", z.errorsAfter(0, 0, 9, 3), 1);
    Due.is("and read right then", z.errorsAfter(0, 0, 9, 4), 0);
  }

  /** Foretold for one object, done on another one of the same make. */
  private static void same(Supplier<StretchSpool> maker, int spool, int way, int pull, int times) {
    int foretold = maker.get().errorsAfter(spool, way, pull, times);
    StretchSpool x = maker.get();
    int letters = x.spool(spool, 0);
    if (times > 0) {
      x.rewind(spool, pull, times);
    }
    int left = Math.max(0, x.spool(spool, 0));
    int errors = x.spool(spool, 0) < 0 ? 0 : x.errors(spool, way, 0) + x.errors(spool, way, 1);
    String of = "way " + way + ", pull " + pull + ", times " + times + " of " + letters;
    Due.is(of, foretold, errors + letters - left);
  }

  private static StretchSpool halfBroken(int rule, int limit) {
    StretchSpool x = Due.with("abcdefghhgfedcba");
    x.rewind(0, 8, 2);
    x.setRule(rule);
    x.setLimit(limit);
    return x;
  }

  private static void asByRewind() {
    Due.sentence("Promise 20", "Tells how many letters would be misread or not be read if a spool was rewound as by rewind();");
    for (int way = 0; way <= 1; way++) {
      for (int times = 0; times <= 30; times += 3) {
        for (int pull = 3; pull <= 9; pull += 2) {
          same(Made::mixed, 0, way, pull, times);
          same(Made::mixed, 1, way, pull, times);
          same(() -> Made.withBeginning("99", 5329, "hheabcdh"), 0, way, pull, times);
          same(() -> Made.withBeginning("9999886999", 6666, "aabcd"), 0, way, pull, times);
          for (int rule = 0; rule <= 2; rule++) {
            int by = rule;
            same(() -> halfBroken(by, 112), 0, way, pull, times);
            same(() -> halfBroken(by, 200), 0, way, pull, times);
          }
        }
      }
    }
  }

  /** Three b's that are read as a, an h that is 11701 long, and a c behind it: by 130 it breaks at the h. */
  private static StretchSpool threeBehindLost() {
    StretchSpool x = Made.withBeginning("99998662", 6001, "bbb");
    Due.perform(x, "write 2 hc");
    Made.pull(x, 2, "999998996");
    x.splice(0, 2);
    Due.is("the h", x.gap(0, 4, 0), 11701);
    x.setLimit(130);
    return x;
  }

  private static void lostLettersCount() {
    Due.sentence("Promise 20", "letters that would be lost by a break count, too.");
    StretchSpool x = threeBehindLost();
    Due.is("three are misread, one cannot be read now", x.errorsAfter(0, 0, 0, 0), 4);
    Due.is("three, and two that are lost", x.errorsAfter(0, 0, 0, 1), 5);
    Due.is("nothing is rewound behind the break", x.errorsAfter(0, 0, 0, 30), 5);
    Due.is("no break is done", x.count(5), 0);
    StretchSpool y = Due.with("abcdefgh");
    y.setLimit(101);
    Due.is("up to the limit", y.errorsAfter(0, 0, 5, 1), 0);
    Due.is("beyond it all are lost", y.errorsAfter(0, 0, 5, 2), 8);
    y.setRule(1);
    Due.is("four of eight", y.errorsAfter(0, 1, 6, 1), 4);
    StretchSpool z = Due.with("aaaa");
    z.setRule(1);
    z.setLimit(101);
    Due.is("the end alone: none", z.errorsAfter(0, 0, 6, 1), 0);
    Due.is("the end alone: nothing behind it", z.errorsAfter(0, 0, 6, 30), 0);
    Due.is("all letters, but not the beginning", z.errorsAfter(0, 0, 7, 1), 4);
    StretchSpool none = Made.mixed();
    none.setLimit(101);
    Due.is("no letters to lose", none.errorsAfter(1, 0, 9, 30), 0);
    Due.is("nor here", none.errorsAfter(3, 1, 9, 30), 0);
  }

  private static void errorsAfterAnswers() {
    Due.sentence("Promise 20", "Returns the number; UNKNOWN; BAD_VALUE; NOT_POSSIBLE if it is empty.");
    Whole mixed = new Whole(Made::mixed);
    mixed.refuses("empty", x -> x.errorsAfter(5, 0, 9, 30), NOT_POSSIBLE);
    mixed.refuses("empty, now", x -> x.errorsAfter(5, 1, 0, 0), NOT_POSSIBLE);
    Due.is("open", Made.mixed().errorsAfter(2, 1, 9, 1), 0);
    Due.is("open and without letters", Made.mixed().errorsAfter(1, 0, 9, 30), 0);
  }

  private static void errorsAfterChangesNothing() {
    Due.sentence("Promise 20", "Tells how many letters would be misread or not be read if a spool was rewound as by rewind();");
    Whole mixed = new Whole(Made::mixed);
    mixed.refuses("it tells, and does nothing", x -> x.errorsAfter(0, 0, 9, 30), 8);
    mixed.refuses("nor of an open one", x -> x.errorsAfter(2, 1, 9, 30), 2);
    new Whole(Made::full).refuses("nor of a full one", x -> x.errorsAfter(5, 1, 9, 30), 6);
    new Whole(EdgeForetoldTest::threeBehindLost).refuses("nor by a break", x -> x.errorsAfter(0, 0, 0, 1), 5);
  }

  private static void safeRewindsRanges() {
    Whole mixed = new Whole(Made::mixed);
    Due.sentence("Promise 21", "- `spool`: a spool");
    for (int spool : NO_SPOOLS) {
      mixed.refuses("spool " + spool, x -> x.safeRewinds(spool, 0, 0), UNKNOWN);
    }
    Due.sentence("Promise 21", "- `way`: 0 or 1");
    Due.is("way 0", Made.mixed().safeRewinds(0, 0, 0), 30);
    Due.is("way 1", Made.mixed().safeRewinds(0, 1, 0), 30);
    for (int way : new int[] {-1, 2, 3, Integer.MIN_VALUE, Integer.MAX_VALUE}) {
      mixed.refuses("way " + way, x -> x.safeRewinds(0, way, 0), BAD_VALUE);
    }
    Due.sentence("Promise 21", "- `pull`: 0 to 9");
    for (int pull = 0; pull <= 9; pull++) {
      Due.is("pull " + pull, Due.with("a").safeRewinds(0, 0, pull), untilBreak(pull));
    }
    for (int pull : new int[] {-1, 10, Integer.MIN_VALUE, Integer.MAX_VALUE}) {
      mixed.refuses("pull " + pull, x -> x.safeRewinds(0, 0, pull), BAD_VALUE);
    }
  }

  /** How often a gap of 5000 can be rewound until it is longer than 6500, at most 30. */
  private static int untilBreak(int pull) {
    int length = 5000;
    int times = 0;
    while (times < 30 && length + length * 4 * pull * pull / 10000 <= 6500) {
      length += length * 4 * pull * pull / 10000;
      times++;
    }
    return times;
  }

  private static final String TELLS = "Tells how often a spool can be rewound so that, behind each of these rewinds, all its"
      + " letters are read as they are now read by the same way";

  private static void safe(StretchSpool x, int rule, int pull, int byZero, int byOne) {
    x.setRule(rule);
    Due.is("rule " + rule + ", pull " + pull + ", way 0", x.safeRewinds(0, 0, pull), byZero);
    Due.is("rule " + rule + ", pull " + pull + ", way 1", x.safeRewinds(0, 1, pull), byOne);
  }

  /** By the pull 5 an a over 6667 can be read behind two rewinds, and cannot be behind the others. */
  private static void behindEachOfThese() {
    Due.sentence("Promise 21", TELLS);
    safe(Made.withBeginning("9999999992", 6667, "a"), 0, 5, 0, 0);
    safe(Made.withBeginning("9999886999", 6666, "a"), 0, 5, 3, 3);
    safe(Made.withBeginning("9999886999", 6666, "a"), 0, 2, 21, 21);
    safe(Made.withBeginning("9999886999", 6666, "a"), 0, 9, 0, 0);
    safe(Made.withBeginning("9999886999", 6666, "a"), 0, 0, 30, 30);
  }

  /** Each of these is another one for the other way, and one letter alone is read as another one then. */
  private static void readAsTheyAreNow() {
    Due.sentence("Promise 21", TELLS);
    safe(Made.withBeginning("99", 5329, "ah"), 1, 9, 3, 30);
    safe(Made.withBeginning("99", 5329, "aha"), 1, 9, 3, 30);
    safe(Made.withBeginning("999999", 6051, "aha"), 1, 9, 4, 30);
    safe(Made.withBeginning("99", 5329, "af"), 2, 9, 5, 17);
    safe(Made.withBeginning("99", 5329, "afa"), 2, 9, 5, 17);
    safe(Made.withBeginning("99", 5329, "ah"), 2, 9, 30, 6);
    safe(Made.withBeginning("99", 5329, "hf"), 1, 9, 7, 2);
    safe(Made.withBeginning("999", 5501, "aga"), 1, 9, 17, 4);
    safe(Made.withBeginning("99999", 5862, "chc"), 1, 9, 9, 6);
    StretchSpool x = Made.withBeginning("99", 5329, "ah");
    x.setRule(1);
    Due.is("three", x.rewind(0, 9, 3), 3);
    Due.is("misread as before", x.read(0, 0, 1), 'g');
    Due.is("one more", x.rewind(0, 9, 1), 1);
    Due.is("is read right, which is another reading", x.read(0, 0, 1), 'h');
  }

  private static void whatCannotBeReadNow() {
    Due.sentence("Promise 21", "(what cannot be read now cannot be read then either),");
    safe(Made.withBeginning("9999999949", 6700, "a"), 1, 2, 19, 19);
    safe(Made.withBeginning("9999999992", 6667, "ba"), 1, 9, 0, 21);
    safe(Made.withBeginning("9999999992", 6667, "a"), 0, 0, 30, 30);
    StretchSpool x = Made.withLetter("999", 9902, "h");
    Due.is("it cannot be read, and cannot be then", x.safeRewinds(1, 0, 1), 30);
    Due.is("until it breaks", x.safeRewinds(1, 0, 9), 18);
    StretchSpool y = Made.withLetter("883", 9500, "h");
    Due.is("9503 over 5002 can be read", y.safeRewinds(1, 0, 1), 0);
    Due.is("as it is now for ever", y.safeRewinds(1, 0, 0), 30);
  }

  /** By the pull 5 it takes 30 rewinds to 134 percent, 31 to 135 and 32 to 136. */
  private static void theWireIsWhole() {
    Due.sentence("Promise 21", "and the wire is whole.");
    StretchSpool x = Due.with("a");
    x.setLimit(101);
    Due.is("up to the limit", x.safeRewinds(0, 0, 5), 1);
    Due.is("beyond it", x.safeRewinds(0, 0, 6), 0);
    x.setRule(2);
    Due.is("the gap at the beginning", x.safeRewinds(0, 0, 6), 1);
    StretchSpool y = Due.with("aaaa");
    y.setRule(1);
    y.setLimit(101);
    Due.is("the end alone", y.safeRewinds(0, 0, 6), 0);
    y.setLimit(102);
    Due.is("the end alone, later", y.safeRewinds(0, 0, 6), 1);
    Due.is("the last letter is read then", y.rewind(0, 6, 2) + 10 * y.spool(0, 0), 42);
    StretchSpool z = Due.with("ab");
    z.rewind(0, 9, 2);
    z.setLimit(101);
    Due.is("it breaks by the next rewind", z.safeRewinds(0, 0, 0), 0);
    Due.is("it is whole now", z.spool(0, 1), 1);
    Due.is("a letter", threeBehindLost().safeRewinds(0, 0, 0), 0);
  }

  private static void atMostThirty() {
    Due.sentence("Promise 21", "Returns how often, at most 30; UNKNOWN; BAD_VALUE; NOT_POSSIBLE if it is empty.");
    int[] limits = {133, 134, 135, 136, 137, 200};
    int[] due = {28, 29, 30, 30, 30, 30};
    for (int place = 0; place < limits.length; place++) {
      StretchSpool x = Due.with("a");
      x.setLimit(limits[place]);
      Due.is("by the limit " + limits[place], x.safeRewinds(0, 0, 5), due[place]);
      Due.is("by the way 1", x.safeRewinds(0, 1, 5), due[place]);
      Due.is("as it is rewound", x.rewind(0, 5, 30), Math.min(30, due[place] + 1));
      Due.is("with a break or without", x.count(5), due[place] < 30 ? 1 : 0);
    }
    StretchSpool x = Due.with("a");
    x.setLimit(135);
    x.rewind(0, 5, 30);
    Due.is("none is left of 30", x.safeRewinds(0, 0, 5), 0);
    StretchSpool y = Due.with("a");
    y.setLimit(136);
    y.rewind(0, 5, 30);
    Due.is("one is left of 31", y.safeRewinds(0, 0, 5), 1);
  }

  private static void safeRewindsAnswers() {
    Due.sentence("Promise 21", "Returns how often, at most 30; UNKNOWN; BAD_VALUE; NOT_POSSIBLE if it is empty.");
    Whole mixed = new Whole(Made::mixed);
    mixed.refuses("empty", x -> x.safeRewinds(5, 0, 9), NOT_POSSIBLE);
    new Whole(Made::empty).refuses("all are empty", x -> x.safeRewinds(0, 1, 0), NOT_POSSIBLE);
    mixed.refuses("it tells, and does nothing", x -> x.safeRewinds(0, 0, 9), 8);
    mixed.refuses("nor of an open one", x -> x.safeRewinds(2, 1, 9), 10);
    mixed.refuses("without letters", x -> x.safeRewinds(1, 0, 0), 30);
    new Whole(Made::full).refuses("nor of a full one", x -> x.safeRewinds(5, 1, 0), 30);
  }
}
