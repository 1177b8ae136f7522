/** The edges of what the document says under READING. */
public final class EdgeReadingTest {
  private static final String HEADING = "READING";

  public static void main(String[] args) {
    roundedDown();
    fromZero();
    toSeven();
    threeWays();
    byTheBeginning();
    byWhatIsReadTheFirst();
    byWhatIsReadBehindIt();
    theLengthOfItsGap();
    theNumberThatWasRead();
    bothDivisionsRoundedDown();
    itStays();
    onlyOfAClosedWire();
    betweenTheEnds();
    roundedTowardZero();
    misread();
    Due.end();
  }

  private static void reads(StretchSpool x, int spool, int way, String due) {
    for (int letter = 0; letter < due.length(); letter++) {
      Due.is("letter " + letter + " by the way " + way, x.read(spool, way, letter), due.charAt(letter));
    }
    Due.is("no more letters by the way " + way, x.read(spool, way, due.length()), StretchSpool.UNKNOWN);
  }

  private static final String NUMBER = "A reader has a measure m for each letter, and reads from its gap the number"
      + " (10 * length + m) / (2 * m), rounded down, less 2, as the number of the letter;";

  /** (30000 + 6000) / 12000 is 3, and with 6001 it is less; (90000 + 5294) / 10588 is more than 9, with 5295 less. */
  private static void roundedDown() {
    Due.sentence(HEADING, NUMBER);
    reads(Made.withBeginning("99999553", 6000, "bbb"), 0, 0, "bbb");
    reads(Made.withBeginning("99998662", 6001, "bbb"), 0, 0, "aaa");
    reads(Made.withBeginning("98", 5294, "hh"), 0, 0, "hh");
    reads(Made.withBeginning("8833", 5295, "hh"), 0, 0, "gg");
    StretchSpool x = Due.with("abcdefgh");
    for (int way = 0; way <= 2; way++) {
      reads(x, 0, way, "abcdefgh");
    }
  }

  private static final String CANNOT = "if this is not from 0 to 7, the letter cannot be read.";

  /** (20000 + 6666) / 13332 is 2, less 2 is 0; with 6667 it is 1, less 2 is -1. */
  private static void fromZero() {
    Due.sentence(HEADING, CANNOT);
    StretchSpool x = Made.withBeginning("9999886999", 6666, "aa");
    reads(x, 0, 0, "aa");
    Due.is("by what is read", x.read(0, 1, 0), 'a');
    StretchSpool y = Made.withBeginning("9999999992", 6667, "aa");
    reads(y, 0, 0, "??");
    reads(y, 0, 1, "??");
    Due.is("neither is misread", y.errors(0, 0, 0), 0);
    Due.is("both cannot be read", y.errors(0, 0, 1), 2);
    reads(withBothEnds("9999886999", 6666, "aa"), 0, 2, "aa");
    reads(withBothEnds("9999999992", 6667, "aa"), 0, 2, "??");
  }

  /** Letters between a beginning and an end that are as long, so that the measure is this length. */
  private static StretchSpool withBothEnds(String pulls, int length, String letters) {
    StretchSpool x = Made.withBeginning(pulls, length, letters);
    Due.perform(x, "write 3 a");
    x.cut(3, 0);
    x.close(3);
    Made.pull(x, 3, pulls);
    x.splice(0, 3);
    Due.is("the end", x.gap(0, letters.length() + 1, 0), length);
    return x;
  }

  /** (94990 + 5000) / 10000 is 9, less 2 is 7; with 95000 it is 10, less 2 is 8. */
  private static void toSeven() {
    Due.sentence(HEADING, CANNOT);
    StretchSpool x = Made.withLetter("9642", 9499, "h");
    reads(x, 1, 0, "h");
    reads(x, 1, 1, "h");
    StretchSpool y = Made.withLetter("883", 9500, "h");
    reads(y, 1, 0, "?");
    reads(y, 1, 1, "?");
    Due.is("it is not misread", y.errors(1, 0, 0), 0);
    Due.is("it cannot be read", y.errors(1, 0, 1), 1);
    Due.is("by a new end as well", anew(x).read(1, 2, 0), 'h');
    Due.is("by a new end neither", anew(y).read(1, 2, 0), '?');
  }

  /** The letter of the spool 1 between two new gaps. */
  private static StretchSpool anew(StretchSpool x) {
    Due.perform(x, "write 2 a");
    x.cut(2, 0);
    x.close(2);
    x.splice(1, 2);
    Due.is("a new end", x.gap(1, 2, 0), 5000);
    return x;
  }

  private static void threeWays() {
    Due.sentence(HEADING, "There are three ways of reading:");
    Whole mixed = new Whole(Made::mixed);
    for (int way = 0; way <= 2; way++) {
      Due.is("the way " + way, Made.mixed().read(0, way, 7), 'h');
    }
    for (int way : new int[] {-1, 3, Integer.MIN_VALUE, Integer.MAX_VALUE}) {
      mixed.refuses("read by " + way, x -> x.read(0, way, 0), StretchSpool.BAD_VALUE);
      mixed.refuses("errors by " + way, x -> x.errors(0, way, 0), StretchSpool.BAD_VALUE);
      mixed.refuses("punch by " + way, x -> x.punch(0, way), StretchSpool.BAD_VALUE);
    }
  }

  /** The end is stretched and the letters are read, but neither counts. */
  private static void byTheBeginning() {
    Due.sentence(HEADING, "0: m is the length of the gap at the beginning;");
    StretchSpool x = Made.withBeginning("99998662", 6001, "bbbbbb");
    reads(x, 0, 0, "aaaaaa");
    StretchSpool y = Made.withEnd("9999999992", 6667, "abcdefgh");
    reads(y, 2, 0, "abcdefgh");
    StretchSpool z = Made.withBeginning("999", 5501, "hhd");
    reads(z, 0, 0, "ggd");
    z.rewind(0, 9, 1);
    reads(z, 0, 0, "ggd");
  }

  private static void byWhatIsReadTheFirst() {
    Due.sentence(HEADING, "1: likewise for the first letter;");
    reads(Made.withBeginning("99999553", 6000, "b"), 0, 1, "b");
    reads(Made.withBeginning("99998662", 6001, "b"), 0, 1, "a");
    reads(Made.withBeginning("9999886999", 6666, "a"), 0, 1, "a");
    reads(Made.withBeginning("9999999992", 6667, "a"), 0, 1, "?");
  }

  private static final String BECOMES = "behind each letter that can be read, m becomes"
      + " (3 * m + 5 * length / (number + 2)) / 4,";

  /** By 5329 an h is read as g; behind an e m is 5246, and it is read as h. */
  private static void byWhatIsReadBehindIt() {
    Due.sentence(HEADING, BECOMES);
    StretchSpool x = Made.withBeginning("99", 5329, "eeeh");
    reads(x, 0, 0, "eeeg");
    reads(x, 0, 1, "eeeh");
    reads(Made.withBeginning("99", 5329, "eh"), 0, 1, "eh");
    reads(Made.withBeginning("99", 5329, "h"), 0, 1, "g");
  }

  /** Behind an h of 9499 the measure is 5069; by the nominal length it were 5000, and 9500 could not be read. */
  private static void theLengthOfItsGap() {
    Due.sentence(HEADING, "with the length of its gap");
    StretchSpool x = Made.withLetter("9642", 9499, "h");
    Due.perform(x, "write 2 h");
    Made.pull(x, 2, "883");
    x.splice(1, 2);
    Due.is("the second one", x.gap(1, 2, 0), 9500);
    reads(x, 1, 0, "h?");
    reads(x, 1, 1, "hh");
  }

  /** A d over 5622 is read as c: by its number m becomes 5779, by that of its truth 5466. */
  private static void theNumberThatWasRead() {
    Due.sentence(HEADING, "and the number that was read");
    StretchSpool x = Made.withBeginning("99866", 5622, "dc");
    reads(x, 0, 1, "cb");
  }

  /**
   * Each time m would be greater by one if a division was rounded up or to the nearest number, and the last
   * letter would be read as another one.
   */
  private static void bothDivisionsRoundedDown() {
    Due.sentence(HEADING, "(both divisions rounded down);");
    reads(Made.withBeginning("999", 5501, "hhd"), 0, 1, "ggd");
    reads(Made.withBeginning("997", 5433, "ggd"), 0, 1, "ffd");
    reads(Made.withBeginning("99866", 5622, "dcb"), 0, 1, "cbb");
  }

  /** What cannot be read at 9500 leaves m at 5000, so that 9499 is read as h behind it. */
  private static void itStays() {
    Due.sentence(HEADING, "behind another one it stays;");
    StretchSpool x = Made.withLetter("883", 9500, "h");
    Due.perform(x, "write 2 h");
    Made.pull(x, 2, "9642");
    x.splice(1, 2);
    Due.is("the second one", x.gap(1, 2, 0), 9499);
    reads(x, 1, 1, "?h");
    StretchSpool y = Made.withBeginning("9999999992", 6667, "aaab");
    reads(y, 0, 1, "???a");
  }

  private static final String BETWEEN = "2 (only of a closed wire): for the letter i (from 0) of c letters, m is"
      + " b + (e - b) * (i + 1) / (c + 1), with the lengths b and e of the gaps at the beginning and the end,";

  private static void onlyOfAClosedWire() {
    Due.sentence(HEADING, BETWEEN);
    StretchSpool x = Due.with("abc");
    Due.is("closed", x.read(0, 2, 0), 'a');
    x.cut(0, 2);
    Whole open = new Whole(() -> {
      StretchSpool y = Due.with("abc");
      y.cut(0, 2);
      return y;
    });
    open.refuses("read of an open one", y -> y.read(0, 2, 0), StretchSpool.NOT_POSSIBLE);
    open.refuses("errors of an open one", y -> y.errors(0, 2, 0), StretchSpool.NOT_POSSIBLE);
    open.refuses("punch of an open one", y -> y.punch(0, 2), StretchSpool.NOT_POSSIBLE);
    x.close(0);
    Due.is("closed again", x.read(0, 2, 1), 'b');
  }

  /** From 5000 to 6667: an a can be read up to 6666, a b is a b up to 6000. */
  private static void betweenTheEnds() {
    Due.sentence(HEADING, BETWEEN);
    reads(Made.withEnd("9999999992", 6667, "bb"), 2, 2, "ba");
    reads(Made.withEnd("9999999992", 6667, "b"), 2, 2, "b");
    reads(Made.withEnd("9999999992", 6667, "bbbb"), 2, 2, "bbba");
    StretchSpool x = Made.withBeginning("9999999992", 6667, "bb");
    reads(x, 0, 2, "ab");
    x.rewind(0, 9, 1);
    reads(x, 0, 2, "ab");
  }

  /** 5393 less 98.25 is 5295, not 5294; 5000 and 294.75 is 5294, not 5295: by 5294 an h is an h, by 5295 a g. */
  private static void roundedTowardZero() {
    Due.sentence(HEADING, "the quotient rounded toward 0.");
    reads(Made.withBeginning("888", 5393, "hhh"), 0, 2, "ghh");
    reads(Made.withEnd("888", 5393, "hhh"), 2, 2, "hhh");
  }

  private static void misread() {
    Due.sentence(HEADING, "A letter is misread if it can be read, but not as its truth.");
    StretchSpool x = Made.withBeginning("9999999992", 6667, "abbc");
    reads(x, 0, 0, "?aab");
    Due.is("three are misread", x.errors(0, 0, 0), 3);
    Due.is("one cannot be read", x.errors(0, 0, 1), 1);
    StretchSpool y = Due.with("abh");
    Due.is("none is misread as its truth", y.errors(0, 0, 0), 0);
    StretchSpool z = Made.withBeginning("999", 5501, "hd");
    Due.is("punched as g", z.punch(0, 0), 1);
    reads(z, 0, 0, "gd");
    Due.is("it is misread though it is punched so", z.errors(0, 0, 0), 1);
    Due.is("the first one", z.errors(0, 0, 2), 0);
  }
}
