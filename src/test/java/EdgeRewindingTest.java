/** The edges of what the document says under REWINDING. */
public final class EdgeRewindingTest {
  private static final String HEADING = "REWINDING";

  public static void main(String[] args) {
    pulls();
    firstRule();
    stretches();
    lengths();
    roundedDown();
    atTheFirstLimit();
    atTheLeastLimit();
    atTheGreatestLimit();
    theLimitOfALetter();
    theFirstGapThatIsTooLong();
    whatIsLost();
    openThen();
    emptyThen();
    Due.end();
  }

  private static void pulls() {
    Due.sentence(HEADING, "A spool is rewound with a pull p from 0 to 9; this takes 10 - p minutes.");
    for (int pull = 0; pull <= 9; pull++) {
      StretchSpool x = Due.with("ab");
      Due.is("pull " + pull, x.rewind(0, pull, 1), 1);
      Due.is("minutes", x.count(2), 10 - pull);
      Due.is("again", x.rewind(0, pull, 3), 3);
      Due.is("minutes for each time", x.count(2), 4 * (10 - pull));
      Due.is("told by a command", Due.perform(x, "rewind 0 " + pull), 1);
      Due.is("minutes", x.count(2), 5 * (10 - pull));
    }
    Whole mixed = new Whole(Made::mixed);
    for (int pull : new int[] {-1, 10, Integer.MIN_VALUE, Integer.MAX_VALUE}) {
      mixed.refuses("pull " + pull, x -> x.rewind(0, pull, 1), StretchSpool.BAD_VALUE);
    }
    StretchSpool broken = Due.with("ab");
    broken.setLimit(101);
    Due.is("broken by the first of three", broken.rewind(0, 7, 3), 1);
    Due.is("minutes of the one that was done", broken.count(2), 3);
  }

  private static void firstRule() {
    Due.sentence(HEADING, "The stretch of the gap k is by the rule (at first 0):");
    StretchSpool x = Due.with("aa");
    Due.is("at first", x.count(7), 0);
    for (int gap = 0; gap < 4; gap++) {
      Due.is("stretch " + gap, x.gap(0, gap, 3), 324);
    }
    x.setRule(1);
    Due.is("by the rule that is set: the first gap", x.gap(0, 0, 3), 162);
    Due.is("the last gap", x.gap(0, 3, 3), 189);
  }

  private static void stretches() {
    Due.sentence(HEADING, "0: 4 * p * p; 1: 2 * p * p + p * k; 2: 2 * p * p + p * (n - 1 - k).");
    for (int letters = 1; letters <= 30; letters += 29) {
      StretchSpool x = Due.with(Due.times("b", letters));
      int n = letters + 2;
      for (int gap = 0; gap < n; gap++) {
        Due.is("rule 0, gap " + gap, x.gap(0, gap, 3), 324);
      }
      x.setRule(1);
      for (int gap = 0; gap < n; gap++) {
        Due.is("rule 1, gap " + gap, x.gap(0, gap, 3), 162 + 9 * gap);
      }
      x.setRule(2);
      for (int gap = 0; gap < n; gap++) {
        Due.is("rule 2, gap " + gap, x.gap(0, gap, 3), 162 + 9 * (n - 1 - gap));
      }
    }
  }

  private static void lengths() {
    Due.sentence(HEADING, "0: 4 * p * p; 1: 2 * p * p + p * k; 2: 2 * p * p + p * (n - 1 - k).");
    for (int rule = 0; rule <= 2; rule++) {
      for (int pull = 0; pull <= 9; pull++) {
        for (int letters = 0; letters <= 30; letters += 10) {
          stretched(rule, pull, letters, true);
          stretched(rule, pull, letters, false);
        }
      }
    }
  }

  private static void stretched(int rule, int pull, int letters, boolean closed) {
    StretchSpool x = Due.with(Due.times("h", Math.max(1, letters)));
    if (letters == 0) {
      x.cut(0, 0);
    }
    if (letters == 0 && closed) {
      x.close(0);
    }
    if (letters == 30 && !closed) {
      return;
    }
    if (letters > 0 && !closed) {
      Due.perform(x, "write 1 a");
      x.splice(0, 1);
      x.cut(0, letters);
    }
    x.setRule(rule);
    int n = letters + (closed ? 2 : 1);
    Due.is("gaps", Made.gaps(x, 0), n);
    x.rewind(0, pull, 1);
    for (int gap = 0; gap < n; gap++) {
      int[] stretch = {
        4 * pull * pull, 2 * pull * pull + pull * gap, 2 * pull * pull + pull * (n - 1 - gap)
      };
      int nominal = gap == 0 || gap == letters + 1 ? 5000 : 9000;
      String of = "rule " + rule + ", pull " + pull + ", gap " + gap + " of " + n;
      Due.is(of, x.gap(0, gap, 0), nominal + nominal * stretch[rule] / 10000);
    }
  }

  /** 2064 and 9291: 64.8 and 291.6 are rounded down, and so are 66.87 and 301.03 of the new lengths. */
  private static void roundedDown() {
    Due.sentence(HEADING, "Each gap becomes longer by length * stretch / 10000, rounded down.");
    StretchSpool x = Due.with("abh");
    x.rewind(0, 9, 1);
    int[] once = {5162, 2064, 3097, 9291, 5162};
    for (int gap = 0; gap < once.length; gap++) {
      Due.is("length " + gap, x.gap(0, gap, 0), once[gap]);
    }
    x.rewind(0, 9, 1);
    int[] twice = {5329, 2130, 3197, 9592, 5329};
    for (int gap = 0; gap < twice.length; gap++) {
      Due.is("length " + gap + " then, by the length and not the nominal one", x.gap(0, gap, 0), twice[gap]);
    }
    StretchSpool y = Due.with("a");
    y.rewind(0, 1, 1);
    Due.is("2000 by 4: 0.8", y.gap(0, 1, 0), 2000);
    Due.is("5000 by 4: 2", y.gap(0, 0, 0), 5002);
    y.rewind(0, 1, 29);
    Due.is("never more than 2000", y.gap(0, 1, 0), 2000);
    Due.is("thirty times two", y.gap(0, 0, 0), 5060);
    y.setRule(1);
    y.rewind(0, 2, 1);
    Due.is("2000 by 10: 2 exactly", y.gap(0, 1, 0), 2002);
    y.rewind(0, 0, 30);
    Due.is("by 0", y.gap(0, 1, 0), 2002);
  }

  private static final String TO_LIMIT = "Then the wire breaks at the first gap whose length * 100 is greater than its nominal"
      + " length * the limit (101 to 200, at first 130):";

  /** 6500 is 130 percent of 5000. */
  private static void atTheFirstLimit() {
    Due.sentence(HEADING, TO_LIMIT);
    StretchSpool x = Due.with("a");
    Due.is("at first", x.count(8), 130);
    Made.pull(x, 0, "9999999942");
    Due.is("as long as the limit", x.gap(0, 0, 0), 6500);
    Due.is("it holds", x.count(5), 0);
    Due.is("it does not hold one more", x.rewind(0, 1, 30), 1);
    Due.is("a break", x.count(5), 1);
    StretchSpool y = Due.with("a");
    Made.pull(y, 0, "999999976");
    Due.is("rewound by 4", y.rewind(0, 4, 1), 1);
    Due.is("6501 breaks", y.count(5), 1);
    Due.is("at the gap 0", y.spool(0, 0), StretchSpool.NOT_POSSIBLE);
  }

  /** The end's stretch is 100 as the gap 17 by rule 1 and the pull 4, and 102 as the gap 5 by the pull 6. */
  private static void atTheLeastLimit() {
    Due.sentence(HEADING, TO_LIMIT);
    StretchSpool x = Due.with(Due.times("a", 16));
    x.setRule(1);
    x.setLimit(101);
    Due.is("rewound", x.rewind(0, 4, 1), 1);
    Due.is("5050 holds", x.gap(0, 17, 0), 5050);
    StretchSpool y = Due.with("aaaa");
    y.setRule(1);
    y.setLimit(101);
    Due.is("rewound", y.rewind(0, 6, 1), 1);
    Due.is("5051 does not", y.gap(0, 5, 0), StretchSpool.UNKNOWN);
    Due.is("the letter before it does", y.gap(0, 4, 0), 2019);
    StretchSpool z = Due.with("aaaa");
    z.setRule(1);
    z.setLimit(102);
    z.rewind(0, 6, 1);
    Due.is("5051 holds by 102", z.gap(0, 5, 0), 5051);
  }

  private static void atTheGreatestLimit() {
    Due.sentence(HEADING, TO_LIMIT);
    StretchSpool x = Due.with("a");
    x.setLimit(200);
    Made.pull(x, 0, "99999999999999999998984");
    Due.is("twice as long", x.gap(0, 0, 0), 10000);
    Due.is("it holds", x.count(5), 0);
    StretchSpool y = Due.with("a");
    y.setLimit(200);
    Made.pull(y, 0, "999999999999999999998");
    Due.is("one more", y.rewind(0, 9, 1), 1);
    Due.is("10001 does not", y.count(5), 1);
    Due.is("nothing is left", y.spool(0, 0), StretchSpool.NOT_POSSIBLE);
  }

  /** An h of 11700 is 130 percent; the gap at the beginning is rounded down more, so it holds longer. */
  private static void theLimitOfALetter() {
    Due.sentence(HEADING, TO_LIMIT);
    StretchSpool x = Due.with("ah");
    Made.pull(x, 0, "999999698");
    Due.is("11700 holds", x.gap(0, 2, 0), 11700);
    Due.is("closed", x.spool(0, 1), 1);
    StretchSpool y = Due.with("ah");
    Made.pull(y, 0, "99999899");
    Due.is("rewound by 6", y.rewind(0, 6, 1), 1);
    Due.is("11701 breaks", y.count(5), 1);
    Due.is("the gap before it holds", y.spool(0, 0), 1);
    Due.is("and so does the beginning", y.gap(0, 0, 0), 6499);
    Due.is("the gaps that are lost", y.event(0, 2), 2);
  }

  /** By rule 1 all gaps from the fifth on are beyond 101; by rule 2 the gap 0 is, and the last ones are not. */
  private static void theFirstGapThatIsTooLong() {
    Due.sentence(HEADING, TO_LIMIT);
    StretchSpool x = Due.with("abcdefgh");
    x.setRule(1);
    x.setLimit(101);
    Due.is("rewound", x.rewind(0, 6, 1), 1);
    Due.is("the first of several", x.spool(0, 0), 4);
    Due.is("one break", x.count(5), 1);
    StretchSpool y = Due.with("abcdefgh");
    y.setRule(2);
    y.setLimit(101);
    Due.is("rewound", y.rewind(0, 6, 1), 1);
    Due.is("the gap 0 is the first one", y.spool(0, 0), StretchSpool.NOT_POSSIBLE);
    Due.is("one break", y.count(5), 1);
    StretchSpool z = Due.with("aaaabbb");
    z.rewind(0, 5, 1);
    z.cut(0, 4);
    Due.perform(z, "write 2 hhh");
    z.splice(2, 1);
    z.setLimit(101);
    Due.is("rewound: fresh h's by 100, the b's behind by 100 more", z.rewind(2, 5, 1), 1);
    Due.is("a gap in the middle is too long alone", z.spool(2, 0), 3);
    Due.is("what is behind is lost", z.event(0, 2), 4);
  }

  private static void whatIsLost() {
    Due.sentence(HEADING, "this gap and all behind it are lost,");
    StretchSpool x = Due.with("abcdefgh");
    x.setRule(1);
    x.setLimit(101);
    x.rewind(0, 6, 1);
    int[] left = {5036, 2015, 3025, 4036, 5048};
    for (int gap = 0; gap < left.length; gap++) {
      Due.is("what is left: " + gap, x.gap(0, gap, 0), left[gap]);
    }
    for (int gap = left.length; gap < 11; gap++) {
      Due.is("what is lost: " + gap, x.gap(0, gap, 0), StretchSpool.UNKNOWN);
    }
    Due.is("gaps lost", x.event(0, 2), 5);
    Due.is("letters lost", x.count(6), 4);
    Due.is("the length of what is left", x.spool(0, 2), 5036 + 2015 + 3025 + 4036 + 5048);
    Due.is("no wire is used by that", x.count(3), 54000);
    StretchSpool y = Due.with("aaaa");
    y.setRule(1);
    y.setLimit(101);
    y.rewind(0, 6, 1);
    Due.is("the end alone: gaps", y.event(0, 2), 1);
    Due.is("the end alone: letters", y.count(6), 0);
    StretchSpool z = Due.with("aaaa");
    z.setRule(1);
    z.setLimit(101);
    z.rewind(0, 7, 1);
    Due.is("all letters: gaps", z.event(0, 2), 5);
    Due.is("all letters: letters", z.count(6), 4);
  }

  private static void openThen() {
    Due.sentence(HEADING, "and the wire is open then;");
    StretchSpool x = Due.with("aaaa");
    x.setRule(1);
    x.setLimit(101);
    x.rewind(0, 6, 1);
    Due.is("the end alone is lost", x.spool(0, 0), 4);
    Due.is("open", x.spool(0, 1), 0);
    Due.is("no more by both ends", x.errors(0, 2, 0), StretchSpool.NOT_POSSIBLE);
    Due.is("it can be closed", x.close(0), 4);
    StretchSpool y = Due.with("aaaahb");
    y.setRule(1);
    y.setLimit(101);
    y.cut(0, 5);
    Due.is("an open one", y.spool(0, 1), 0);
    Due.is("rewound", y.rewind(0, 6, 1), 1);
    Due.is("its last letter is lost: 9091", y.spool(0, 0), 4);
    Due.is("it is open as before", y.spool(0, 1), 0);
    Due.is("one gap", y.event(0, 2), 1);
    StretchSpool z = Due.with("aaaa");
    z.setRule(1);
    z.setLimit(101);
    z.rewind(0, 7, 1);
    Due.is("the beginning alone is left", z.spool(0, 0), 0);
    Due.is("open", z.spool(0, 1), 0);
    Due.is("a wire", z.count(0), 1);
  }

  private static void emptyThen() {
    Due.sentence(HEADING, "if it is the gap 0, the spool is empty.");
    StretchSpool x = Due.with("abc");
    x.setRule(2);
    x.setLimit(101);
    Due.is("rewound", x.rewind(0, 9, 30), 1);
    Due.is("no wire", x.count(0), 0);
    Due.is("empty", x.spool(0, 0), StretchSpool.NOT_POSSIBLE);
    Due.is("no gap", x.gap(0, 0, 0), StretchSpool.UNKNOWN);
    Due.is("all gaps are lost", x.event(0, 2), 5);
    Due.is("all letters are lost", x.count(6), 3);
    Due.is("no more rewinds", x.rewind(0, 9, 1), StretchSpool.NOT_POSSIBLE);
    StretchSpool y = Due.with("a");
    y.cut(0, 0);
    y.setLimit(101);
    Due.is("a wire without letters", y.rewind(0, 8, 1), 1);
    Due.is("is lost as well", y.spool(0, 0), StretchSpool.NOT_POSSIBLE);
    Due.is("one gap", y.event(0, 2), 1);
    Due.is("no letter", y.count(6), 0);
    Due.is("the lowest empty spool for a cut", y.cut(1, 0), 0);
  }
}
