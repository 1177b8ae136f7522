/** The edges of what the document says under WIRES. */
public final class EdgeWiresTest {
  private static final String HEADING = "WIRES";

  public static void main(String[] args) {
    sixSpools();
    noSeventhSpool();
    emptyOrWithWire();
    emptyIsNotWithoutLetters();
    thirtyLetters();
    noLetters();
    openOrClosed();
    lettersFromAToH();
    twoLengths();
    nominalLengths();
    punchedGaps();
    truths();
    writtenWithBothEnds();
    countedFromZero();
    allGaps();
    Due.end();
  }

  private static void sixSpools() {
    Due.sentence(HEADING, "There are at most 6 spools, numbered from 0.");
    for (int spool = 0; spool <= 5; spool++) {
      StretchSpool x = new StretchSpool();
      Due.is("write " + spool, Due.perform(x, "write " + spool + " cb"), 2);
      Due.is("letters of " + spool, x.spool(spool, 0), 2);
      Due.is("gap of " + spool, x.gap(spool, 1, 0), 4000);
      Due.is("read of " + spool, x.read(spool, 0, 1), 'b');
      Due.is("errors of " + spool, x.errors(spool, 0, 0), 0);
      Due.is("bestWay of " + spool, x.bestWay(spool), 0);
      Due.is("errorsAfter of " + spool, x.errorsAfter(spool, 0, 0, 1), 0);
      Due.is("safeRewinds of " + spool, x.safeRewinds(spool, 0, 0), 30);
      Due.is("rewind of " + spool, x.rewind(spool, 1, 1), 1);
      Due.is("punch of " + spool, x.punch(spool, 0), 0);
      int other = spool == 0 ? 1 : 0;
      Due.is("cut of " + spool, x.cut(spool, 1), other);
      Due.is("close of " + spool, x.close(spool), 1);
      Due.is("splice to " + spool, x.splice(spool, other), 2);
    }
  }

  private static void noSeventhSpool() {
    Due.sentence(HEADING, "There are at most 6 spools, numbered from 0.");
    Whole mixed = new Whole(Made::mixed);
    int[] none = {-1, 6, 7, Integer.MIN_VALUE, Integer.MAX_VALUE};
    for (int spool : none) {
      mixed.refuses("rewind of " + spool, x -> x.rewind(spool, 1, 1), StretchSpool.UNKNOWN);
      mixed.refuses("cut of " + spool, x -> x.cut(spool, 0), StretchSpool.UNKNOWN);
      mixed.refuses("splice to " + spool, x -> x.splice(spool, 0), StretchSpool.UNKNOWN);
      mixed.refuses("splice of " + spool, x -> x.splice(0, spool), StretchSpool.UNKNOWN);
      mixed.refuses("close of " + spool, x -> x.close(spool), StretchSpool.UNKNOWN);
      mixed.refuses("punch of " + spool, x -> x.punch(spool, 0), StretchSpool.UNKNOWN);
      mixed.refuses("spool of " + spool, x -> x.spool(spool, 0), StretchSpool.UNKNOWN);
      mixed.refuses("gap of " + spool, x -> x.gap(spool, 0, 0), StretchSpool.UNKNOWN);
      mixed.refuses("read of " + spool, x -> x.read(spool, 0, 0), StretchSpool.UNKNOWN);
      mixed.refuses("errors of " + spool, x -> x.errors(spool, 0, 0), StretchSpool.UNKNOWN);
      mixed.refuses("bestWay of " + spool, x -> x.bestWay(spool), StretchSpool.UNKNOWN);
      mixed.refuses("errorsAfter of " + spool, x -> x.errorsAfter(spool, 0, 1, 1), StretchSpool.UNKNOWN);
      mixed.refuses("safeRewinds of " + spool, x -> x.safeRewinds(spool, 0, 1), StretchSpool.UNKNOWN);
    }
    StretchSpool full = Made.full();
    Due.is("with six wires there is no room for one more", full.cut(0, 1), StretchSpool.FULL);
  }

  private static void emptyOrWithWire() {
    Due.sentence(HEADING, "A spool is empty, or has a wire.");
    for (int spool = 0; spool < 6; spool++) {
      int one = spool;
      Whole empty = new Whole(Made::empty);
      empty.refuses("rewind", x -> x.rewind(one, 0, 1), StretchSpool.NOT_POSSIBLE);
      empty.refuses("cut", x -> x.cut(one, 0), StretchSpool.UNKNOWN);
      empty.refuses("splice", x -> x.splice(one, (one + 1) % 6), StretchSpool.NOT_POSSIBLE);
      empty.refuses("close", x -> x.close(one), StretchSpool.NOT_POSSIBLE);
      empty.refuses("spool", x -> x.spool(one, 0), StretchSpool.NOT_POSSIBLE);
      empty.refuses("gap", x -> x.gap(one, 0, 0), StretchSpool.UNKNOWN);
      empty.refuses("bestWay", x -> x.bestWay(one), StretchSpool.NOT_POSSIBLE);
      for (int way = 0; way <= 2; way++) {
        int by = way;
        empty.refuses("punch", x -> x.punch(one, by), StretchSpool.NOT_POSSIBLE);
        empty.refuses("read", x -> x.read(one, by, 0), StretchSpool.UNKNOWN);
        empty.refuses("errors", x -> x.errors(one, by, 2), StretchSpool.NOT_POSSIBLE);
      }
      empty.refuses("errorsAfter", x -> x.errorsAfter(one, 0, 0, 0), StretchSpool.NOT_POSSIBLE);
      empty.refuses("safeRewinds", x -> x.safeRewinds(one, 0, 0), StretchSpool.NOT_POSSIBLE);
    }
  }

  private static void emptyIsNotWithoutLetters() {
    Due.sentence(HEADING, "A spool is empty, or has a wire.");
    StretchSpool x = Due.with("a");
    x.cut(0, 0);
    Due.is("a wire without letters is a wire", x.count(0), 2);
    Due.is("it cannot be written over", Due.perform(x, "write 0 a"), StretchSpool.NOT_POSSIBLE);
    Due.is("its letters", x.spool(0, 0), 0);
    Due.is("what is spliced leaves an empty spool", x.splice(1, 0), 1);
    Due.is("that is no wire", x.count(0), 1);
    Due.is("that has none", x.spool(0, 0), StretchSpool.NOT_POSSIBLE);
    Due.is("that can be written on", Due.perform(x, "write 0 a"), 1);
  }

  private static void thirtyLetters() {
    Due.sentence(HEADING, "A wire has a gap at its beginning, the gaps of at most 30 letters (perhaps none),");
    Due.is("written: 29", Due.perform(new StretchSpool(), "write 0 " + Due.times("b", 29)), 29);
    Due.is("written: 30", Due.perform(new StretchSpool(), "write 0 " + Due.times("b", 30)), 30);
    Due.is("written: 31", Due.perform(new StretchSpool(), "write 0 " + Due.times("b", 31)), StretchSpool.FULL);
    Due.is("spliced: 29 and 1", spliced(29, 1), 30);
    Due.is("spliced: 1 and 29", spliced(1, 29), 30);
    Due.is("spliced: 15 and 15", spliced(15, 15), 30);
    Due.is("spliced: 14 and 15", spliced(14, 15), 29);
    Due.is("spliced: 15 and 16", spliced(15, 16), StretchSpool.FULL);
    Due.is("spliced: 30 and 1", spliced(30, 1), StretchSpool.FULL);
    Due.is("spliced: 1 and 30", spliced(1, 30), StretchSpool.FULL);
    Due.is("spliced: 30 and 30", spliced(30, 30), StretchSpool.FULL);
    StretchSpool x = Due.with(Due.times("b", 29) + "h");
    Due.is("the last letter is read", x.read(0, 0, 29), 'h');
    Due.is("the gap behind it", x.gap(0, 31, 1), 5000);
  }

  private static int spliced(int first, int second) {
    StretchSpool x = Due.with(Due.times("c", first));
    Due.perform(x, "write 1 " + Due.times("d", second));
    return x.splice(0, 1);
  }

  private static void noLetters() {
    Due.sentence(HEADING, "the gaps of at most 30 letters (perhaps none),");
    StretchSpool x = Due.with("a");
    x.cut(0, 0);
    Due.is("letters", x.spool(0, 0), 0);
    Due.is("the gap at the beginning is there", x.gap(0, 0, 0), 5000);
    Due.is("and no other", x.gap(0, 1, 0), StretchSpool.UNKNOWN);
    Due.is("the length of all", x.spool(0, 2), 5000);
    Due.is("the nearest to the limit", x.spool(0, 5), 0);
    Due.is("no letter to read", x.read(0, 0, 0), StretchSpool.UNKNOWN);
    Due.is("no letter to cut at", x.cut(0, 0), StretchSpool.UNKNOWN);
    Due.is("none misread", x.errors(0, 0, 0), 0);
    Due.is("none unreadable", x.errors(0, 1, 1), 0);
    Due.is("no first one", x.errors(0, 1, 2), StretchSpool.NONE);
    Due.is("the best way", x.bestWay(0), 0);
    Due.is("errors after", x.errorsAfter(0, 1, 9, 30), 0);
    Due.is("safe until it breaks: 5000 to 6495", x.safeRewinds(0, 0, 9), 8);
    Due.is("punched anew", x.punch(0, 1), 0);
    Due.is("rewound", x.rewind(0, 9, 1), 1);
    Due.is("closed", x.close(0), 0);
    Due.is("by both ends", x.errors(0, 2, 2), StretchSpool.NONE);
    Due.is("punched by both ends", x.punch(0, 2), 0);
    Due.is("spliced behind one", x.splice(1, 0), 1);
  }

  private static void openOrClosed() {
    Due.sentence(HEADING, "and perhaps a gap at its end; without the latter it is open, otherwise closed.");
    StretchSpool x = Due.with("ab");
    Due.is("closed", x.spool(0, 1), 1);
    Due.is("the gap at its end", x.gap(0, 3, 1), 5000);
    Due.is("no gap behind it", x.gap(0, 4, 1), StretchSpool.UNKNOWN);
    x.cut(0, 1);
    Due.is("open", x.spool(0, 1), 0);
    Due.is("the last letter", x.gap(0, 1, 1), 2000);
    Due.is("no gap at its end", x.gap(0, 2, 1), StretchSpool.UNKNOWN);
    Due.is("by both ends", x.errors(0, 2, 0), StretchSpool.NOT_POSSIBLE);
    Due.is("the other is closed", x.spool(1, 1), 1);
    Due.is("by both ends", x.errors(1, 2, 0), 0);
    Due.is("which answers 1 or 0 for a wire alone", x.spool(2, 1), StretchSpool.NOT_POSSIBLE);
  }

  private static void lettersFromAToH() {
    Due.sentence(HEADING, "Letters are a to h, numbered from 0 (a) to 7 (h).");
    for (int number = 0; number <= 7; number++) {
      StretchSpool x = Due.with("" + (char) ('a' + number));
      Due.is("the number " + number, x.gap(0, 1, 1), 2000 + 1000 * number);
      Due.is("its code", x.gap(0, 1, 2), 97 + number);
      Due.is("as it is read", x.read(0, 0, 0), 97 + number);
    }
    Due.is("before a", Due.perform(new StretchSpool(), "write 0 " + (char) ('a' - 1)), -108);
    Due.is("behind h", Due.perform(new StretchSpool(), "write 0 " + (char) ('h' + 1)), -108);
    Due.is("before a, further on", Due.perform(new StretchSpool(), "write 0 ah" + (char) ('a' - 1)), -110);
    Due.is("behind h, further on", Due.perform(new StretchSpool(), "write 0 ah" + (char) ('h' + 1)), -110);
    Due.is("a large one", Due.perform(new StretchSpool(), "write 0 H"), -108);
  }

  private static void twoLengths() {
    Due.sentence(HEADING, "Each gap has a length and a nominal length.");
    StretchSpool x = Due.with("ah");
    x.rewind(0, 9, 1);
    int[] lengths = {5162, 2064, 9291, 5162};
    int[] nominals = {5000, 2000, 9000, 5000};
    for (int gap = 0; gap < 4; gap++) {
      Due.is("length " + gap, x.gap(0, gap, 0), lengths[gap]);
      Due.is("nominal " + gap, x.gap(0, gap, 1), nominals[gap]);
    }
    x.cut(0, 1);
    Due.is("the end's length goes on", x.gap(1, 2, 0), 5162);
    Due.is("so does its nominal length", x.gap(1, 2, 1), 5000);
    x.splice(0, 1);
    Due.is("a letter's length goes on", x.gap(0, 2, 0), 9291);
    Due.is("so does its nominal length", x.gap(0, 2, 1), 9000);
  }

  private static void nominalLengths() {
    Due.sentence(HEADING, "The nominal length of the gaps at the beginning and the end is 5000, that of a letter"
        + " 2000 + 1000 * its number.");
    StretchSpool x = Due.with("hgfedcba");
    int[] due = {5000, 9000, 8000, 7000, 6000, 5000, 4000, 3000, 2000, 5000};
    for (int gap = 0; gap < due.length; gap++) {
      Due.is("nominal " + gap, x.gap(0, gap, 1), due[gap]);
    }
    x.cut(0, 0);
    Due.is("at a new beginning", x.gap(1, 0, 1), 5000);
    x.close(0);
    Due.is("at a new end", x.gap(0, 1, 1), 5000);
    Due.is("of both", x.spool(0, 3), 10000);
  }

  private static void punchedGaps() {
    Due.sentence(HEADING, "A gap that is punched has its nominal length.");
    StretchSpool x = Due.with("ah");
    for (int gap = 0; gap < 4; gap++) {
      Due.is("written", x.gap(0, gap, 0), x.gap(0, gap, 1));
    }
    x.rewind(0, 9, 2);
    x.cut(0, 1);
    Due.is("the beginning of what is cut off", x.gap(1, 0, 0), 5000);
    Due.is("what was not punched stays", x.gap(1, 2, 0), 5329);
    x.close(0);
    Due.is("the end of what is closed", x.gap(0, 2, 0), 5000);
    Due.is("what was not punched stays", x.gap(0, 0, 0), 5329);
    Due.is("punched anew", x.punch(0, 0), 0);
    int[] lengths = {5000, 2000, 5000};
    for (int gap = 0; gap < 3; gap++) {
      Due.is("punched anew: " + gap, x.gap(0, gap, 0), lengths[gap]);
      Due.is("its nominal length", x.gap(0, gap, 1), lengths[gap]);
    }
  }

  private static void truths() {
    Due.sentence(HEADING, "Each letter of a wire has a truth besides: the letter that was written once; it stays by all"
        + " that happens to the gap, also if it is punched anew as another letter.");
    StretchSpool x = Made.withBeginning("9999999939996", 7222, "bh");
    truths(x, 0, "bh");
    Due.is("b is read as a", x.read(0, 0, 0), 'a');
    Due.is("h is read as e", x.read(0, 0, 1), 'e');
    Due.is("two are punched as others", x.punch(0, 0), 2);
    Due.is("as a", x.gap(0, 1, 1), 2000);
    Due.is("as e", x.gap(0, 2, 1), 6000);
    truths(x, 0, "bh");
    Due.is("two once more", x.punch(0, 0), 2);
    truths(x, 0, "bh");
    x.rewind(0, 9, 3);
    truths(x, 0, "bh");
    Due.is("cut", x.cut(0, 1), 2);
    truths(x, 0, "b");
    truths(x, 2, "h");
    x.close(0);
    truths(x, 0, "b");
    x.splice(2, 0);
    truths(x, 2, "hb");
    x.keep();
    x.restore();
    x.undo();
    truths(x, 2, "hb");
    Due.is("both are misread still", x.errors(2, 0, 0), 2);
  }

  private static void truths(StretchSpool x, int spool, String due) {
    Due.is("letters", x.spool(spool, 0), due.length());
    for (int letter = 0; letter < due.length(); letter++) {
      Due.is("truth " + letter, x.gap(spool, letter + 1, 2), due.charAt(letter));
    }
    Due.is("the beginning has none", x.gap(spool, 0, 2), StretchSpool.NONE);
    int end = x.spool(spool, 1) == 1 ? StretchSpool.NONE : StretchSpool.UNKNOWN;
    Due.is("nor has an end", x.gap(spool, due.length() + 1, 2), end);
  }

  private static void writtenWithBothEnds() {
    Due.sentence(HEADING, "A wire is written on an empty spool, with both gaps at its ends.");
    StretchSpool x = new StretchSpool();
    Due.is("on an empty one", Due.perform(x, "write 3 a"), 1);
    Due.is("closed", x.spool(3, 1), 1);
    Due.is("the beginning", x.gap(3, 0, 0), 5000);
    Due.is("the end", x.gap(3, 2, 0), 5000);
    Whole written = new Whole(() -> {
      StretchSpool y = Due.with("a");
      Due.text(y, "write 0 b");
      return y;
    });
    written.refuses("on one that has a wire", StretchSpool::perform, StretchSpool.NOT_POSSIBLE);
    x.setRule(2);
    x.setLimit(101);
    x.rewind(3, 9, 1);
    Due.is("emptied by a break", x.spool(3, 0), StretchSpool.NOT_POSSIBLE);
    Due.is("on that", Due.perform(x, "write 3 bb"), 2);
    Due.is("with both gaps", x.spool(3, 3), 16000);
    Due.is("not rewound yet", x.spool(3, 4), 0);
  }

  private static void countedFromZero() {
    Due.sentence(HEADING, "The gaps of a wire are counted from 0: that at the beginning, those of the letters, that at the"
        + " end (if it is closed).");
    StretchSpool x = Due.with("gh");
    int[] closed = {StretchSpool.UNKNOWN, 5000, 8000, 9000, 5000, StretchSpool.UNKNOWN};
    for (int gap = -1; gap <= 4; gap++) {
      Due.is("closed: gap " + gap, x.gap(0, gap, 1), closed[gap + 1]);
    }
    x.cut(0, 1);
    int[] open = {StretchSpool.UNKNOWN, 5000, 8000, StretchSpool.UNKNOWN, StretchSpool.UNKNOWN};
    for (int gap = -1; gap <= 3; gap++) {
      Due.is("open: gap " + gap, x.gap(0, gap, 1), open[gap + 1]);
    }
    StretchSpool full = Due.with(Due.times("h", 30));
    Due.is("the last letter", full.gap(0, 30, 1), 9000);
    Due.is("the end", full.gap(0, 31, 1), 5000);
    Due.is("behind it", full.gap(0, 32, 1), StretchSpool.UNKNOWN);
    Due.is("without bound", full.gap(0, Integer.MAX_VALUE, 1), StretchSpool.UNKNOWN);
  }

  /** By rule 2 the stretch of the gap 0 with the pull 9 is 162 + 9 * (n - 1). */
  private static void allGaps() {
    Due.sentence(HEADING, "n is the number of all gaps.");
    for (int letters = 1; letters <= 30; letters++) {
      StretchSpool x = Due.with(Due.times("a", letters));
      x.setRule(2);
      Due.is("closed, letters " + letters, x.gap(0, 0, 3), 162 + 9 * (letters + 1));
      x.cut(0, letters - 1);
      Due.is("open, one letter less", x.gap(0, 0, 3), 162 + 9 * (letters - 1));
      Due.is("cut off: one letter, closed", x.gap(1, 0, 3), 162 + 18);
      x.close(0);
      Due.is("closed, one letter less", x.gap(0, 0, 3), 162 + 9 * letters);
      x.rewind(0, 9, 1);
      Due.is("so it is stretched", x.gap(0, 0, 0), 5000 + 5000 * (162 + 9 * letters) / 10000);
      Due.is("the last one by none", x.gap(0, letters, 0), 5081);
    }
  }
}
