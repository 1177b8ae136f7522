/** The edges of the promises 22 and 23: event and count; and the greatest sums of 512 calls. */
public final class EdgeLogAndSumsTest {
  private static final int BAD_VALUE = StretchSpool.BAD_VALUE;
  private static final int NONE = StretchSpool.NONE;

  public static void main(String[] args) {
    eventRanges();
    eventNumbers();
    eventAnswers();
    countRange();
    countOfSpoolsAndLetters();
    countOfMinutesAndWire();
    countOfRewindsAndBreaks();
    countOfSettings();
    countOfStatesAndText();
    theGreatestMinutes();
    theGreatestWireUsed();
    Due.end();
  }

  private static void eventRanges() {
    Whole mixed = new Whole(Made::mixed);
    Due.sentence("Promise 22", "Looks back at the log.");
    Due.sentence("Promise 22", "- `back`: 0 for the latest event, 1 for the one before, and so on");
    int[] kinds = {5, 3, 3, 3, 0, 1, 1, 0, NONE, NONE, NONE};
    for (int back = 0; back < kinds.length; back++) {
      Due.is("back " + back, Made.mixed().event(back, 0), kinds[back]);
    }
    for (int back : new int[] {-1, -2, Integer.MIN_VALUE}) {
      mixed.refuses("back " + back, x -> x.event(back, 0), BAD_VALUE);
    }
    for (int back : new int[] {8, 9, 10, 11, Integer.MAX_VALUE}) {
      mixed.refuses("back " + back, x -> x.event(back, 2), NONE);
    }
    StretchSpool full = Made.full();
    Due.is("the tenth", full.event(9, 0), 0);
    Due.is("no eleventh", full.event(10, 0), NONE);
    Due.sentence("Promise 22", "- `what`: 0 for its kind, 1 for its spool (3: that which was cut; 4: the first one), 2 for a number");
    for (int what = 0; what <= 2; what++) {
      Due.holds("what " + what, Made.mixed().event(0, what) >= 0);
    }
    for (int what : new int[] {-1, 3, Integer.MIN_VALUE, Integer.MAX_VALUE}) {
      mixed.refuses("what " + what, x -> x.event(0, what), BAD_VALUE);
      mixed.refuses("what " + what + " of none", x -> x.event(99, what), BAD_VALUE);
      mixed.refuses("what " + what + " of a negative one", x -> x.event(-1, what), BAD_VALUE);
    }
  }

  private static void is(StretchSpool x, int back, int kind, int spool, int number) {
    Due.is("kind " + back, x.event(back, 0), kind);
    Due.is("spool " + back, x.event(back, 1), spool);
    Due.is("number " + back, x.event(back, 2), number);
  }

  private static void eventNumbers() {
    Due.sentence("Promise 22", "- `what`: 0 for its kind, 1 for its spool (3: that which was cut; 4: the first one), 2 for a number");
    Due.sentence("Promise 22", "(0 and 4 the letters of the wire then, 1 the pull, 2 the gaps that are lost, 3 the other spool, 5"
        + " the letters, 6 the way)");
    StretchSpool x = new StretchSpool();
    Due.perform(x, "write 5 " + Due.times("b", 30));
    is(x, 0, 0, 5, 30);
    x.rewind(5, 0, 1);
    is(x, 0, 1, 5, 0);
    x.rewind(5, 9, 1);
    is(x, 0, 1, 5, 9);
    x.cut(5, 10);
    is(x, 0, 3, 5, 0);
    x.close(5);
    is(x, 0, 5, 5, 10);
    x.cut(0, 0);
    is(x, 0, 3, 0, 1);
    x.close(0);
    is(x, 0, 5, 0, 0);
    x.splice(0, 5);
    is(x, 0, 4, 0, 10);
    x.splice(1, 0);
    is(x, 0, 4, 1, 30);
    x.punch(1, 2);
    is(x, 0, 6, 1, 2);
    x.punch(1, 0);
    is(x, 0, 6, 1, 0);
    x.setRule(1);
    x.setLimit(101);
    Due.is("3030 holds as the gap 5, 3032 does not as the gap 6", x.rewind(1, 6, 1), 1);
    is(x, 0, 2, 1, 26);
    is(x, 1, 1, 1, 6);
    x.setRule(2);
    x.rewind(1, 9, 1);
    is(x, 0, 2, 1, 6);
    Due.is("all of it", x.count(0), 0);
  }

  private static void eventAnswers() {
    Due.sentence("Promise 22", "Returns the number; BAD_VALUE (back is negative, or what); NONE if there is none.");
    Whole empty = new Whole(Made::empty);
    empty.refuses("none", x -> x.event(0, 0), NONE);
    empty.refuses("none for ever", x -> x.event(Integer.MAX_VALUE, 2), NONE);
    empty.refuses("negative", x -> x.event(-1, 0), BAD_VALUE);
    empty.refuses("what", x -> x.event(0, 3), BAD_VALUE);
    Whole full = new Whole(Made::full);
    full.refuses("none", x -> x.event(10, 1), NONE);
    full.refuses("negative", x -> x.event(Integer.MIN_VALUE, 1), BAD_VALUE);
  }

  private static final String SUMS = "- `what`: 0 for spools that are not empty, 1 for letters on all of them, 2 for the minutes so far,"
      + " 3 for the wire used so far, 4 for rewinds so far, 5 for breaks so far, 6 for letters that were lost by breaks so far,"
      + " 7 for the rule, 8 for the limit, 9 for the states in the history, 10 for the length of the text";

  private static void countRange() {
    Due.sentence("Promise 23", "Returns the number; BAD_VALUE.");
    int[] due = {0, 0, 0, 0, 0, 0, 0, 0, 130, 0, 0};
    for (int what = 0; what <= 10; what++) {
      Due.is("count(" + what + ") of a new one", new StretchSpool().count(what), due[what]);
    }
    for (int what : new int[] {-1, 11, 12, Integer.MIN_VALUE, Integer.MAX_VALUE}) {
      new Whole(Made::empty).refuses("count(" + what + ")", x -> x.count(what), BAD_VALUE);
      new Whole(Made::full).refuses("count(" + what + ")", x -> x.count(what), BAD_VALUE);
    }
    int[] mixed = {5, 11, 2, 54000 + 19000 + 20000, 2, 0, 0, 0, 140, 3, 7};
    for (int what = 0; what <= 10; what++) {
      Due.is("count(" + what + ") of a mixed one", Made.mixed().count(what), mixed[what]);
    }
    int wire = 6 * 10000 + 6 * 3 * 44000 + 6 * (4000 + 5000 + 6000 + 7000 + 8000 + 9000);
    int[] full = {6, 180, 2 + 4 + 6, wire, 6, 0, 0, 1, 130, 4, 50};
    for (int what = 0; what <= 10; what++) {
      Due.is("count(" + what + ") of a full one", Made.full().count(what), full[what]);
    }
  }

  private static void countOfSpoolsAndLetters() {
    Due.sentence("Promise 23", SUMS);
    StretchSpool x = new StretchSpool();
    for (int spool = 0; spool < 6; spool++) {
      Due.perform(x, "write " + spool + " aa");
      Due.is("spools", x.count(0), spool + 1);
      Due.is("letters", x.count(1), 2 * spool + 2);
    }
    x.splice(0, 5);
    Due.is("spools, spliced", x.count(0), 5);
    Due.is("letters, spliced", x.count(1), 12);
    x.cut(0, 0);
    Due.is("spools, cut", x.count(0), 6);
    Due.is("letters, cut", x.count(1), 12);
    x.setLimit(101);
    x.rewind(5, 9, 1);
    Due.is("spools, broken", x.count(0), 5);
    Due.is("letters, broken", x.count(1), 8);
    x.rewind(0, 9, 1);
    Due.is("spools, one without letters broken", x.count(0), 4);
    Due.is("letters, one without letters broken", x.count(1), 8);
  }

  private static void countOfMinutesAndWire() {
    Due.sentence("Promise 23", SUMS);
    StretchSpool x = Due.with("ab");
    Due.is("wire, written", x.count(3), 15000);
    x.rewind(0, 0, 1);
    Due.is("minutes, the most for one", x.count(2), 10);
    x.rewind(0, 9, 1);
    Due.is("minutes, the least for one", x.count(2), 11);
    x.rewind(0, 0, 30);
    Due.is("minutes, thirty times", x.count(2), 311);
    x.cut(0, 0);
    Due.is("wire, cut", x.count(3), 20000);
    x.close(0);
    Due.is("wire, closed", x.count(3), 25000);
    x.splice(0, 1);
    Due.is("wire, spliced", x.count(3), 25000);
    x.punch(0, 0);
    Due.is("wire, punched", x.count(3), 40000);
    Due.is("minutes are for rewinds alone", x.count(2), 311);
    x.setLimit(101);
    x.rewind(0, 7, 30);
    Due.is("minutes, with that by which it breaks", x.count(2), 314);
    Due.is("wire that is lost was used", x.count(3), 40000);
    x.undo();
    Due.is("minutes, undone", x.count(2), 311);
  }

  private static void countOfRewindsAndBreaks() {
    Due.sentence("Promise 23", SUMS);
    StretchSpool x = Due.with("aaaa");
    x.setRule(1);
    x.setLimit(101);
    x.rewind(0, 6, 1);
    Due.is("a break of the end: rewinds", x.count(4), 1);
    Due.is("a break of the end: breaks", x.count(5), 1);
    Due.is("a break of the end: letters", x.count(6), 0);
    x.rewind(0, 0, 29);
    Due.is("rewinds", x.count(4), 30);
    Due.is("breaks", x.count(5), 1);
    x.rewind(0, 7, 1);
    Due.is("a break of all: letters", x.count(6), 4);
    Due.is("breaks", x.count(5), 2);
    Due.is("rewinds", x.count(4), 31);
    x.rewind(0, 9, 1);
    Due.is("what is refused does not count", x.count(4), 31);
    Due.perform(x, "write 1 a");
    x.cut(1, 0);
    x.rewind(1, 9, 1);
    Due.is("a break of no letters: letters", x.count(6), 4);
    Due.is("breaks", x.count(5), 3);
    Due.is("rewinds", x.count(4), 32);
    Due.perform(x, "write 1 hh");
    x.setRule(2);
    x.rewind(1, 8, 1);
    Due.is("all letters", x.count(6), 6);
    Due.is("breaks", x.count(5), 4);
  }

  private static void countOfSettings() {
    Due.sentence("Promise 23", SUMS);
    StretchSpool x = new StretchSpool();
    Due.is("the rule at first", x.count(7), 0);
    Due.is("the limit at first", x.count(8), 130);
    x.setRule(2);
    x.setLimit(101);
    Due.is("the rule", x.count(7), 2);
    Due.is("the least limit", x.count(8), 101);
    x.setLimit(200);
    Due.is("the greatest limit", x.count(8), 200);
    x.setLimit(201);
    x.setRule(3);
    Due.is("an error does not set it", x.count(7) + x.count(8), 202);
  }

  private static void countOfStatesAndText() {
    Due.sentence("Promise 23", SUMS);
    StretchSpool x = new StretchSpool();
    for (int act = 1; act <= 6; act++) {
      x.setLimit(130 + act);
      Due.is("states", x.count(9), Math.min(4, act));
    }
    x.undo();
    Due.is("states, undone", x.count(9), 3);
    for (int length = 1; length <= 52; length++) {
      x.type('b');
      Due.is("length", x.count(10), Math.min(50, length));
    }
    x.clearText();
    Due.is("length, emptied", x.count(10), 0);
  }

  /** As many rewinds of 30 times 10 minutes as 512 calls leave room for; the last of them is the 512th. */
  private static void theGreatestMinutes() {
    Due.sentence("Promise 4", "Returns how often it is rewound, with the time by which it breaks;");
    StretchSpool x = Due.with("a");
    for (int call = 0; call < 499; call++) {
      Due.is("thirty times", x.rewind(0, 0, 30), 30);
    }
    Due.is("minutes", x.count(2), 149700);
    Due.is("rewinds", x.count(4), 14970);
  }

  /** The same with the wire of 30 h's, which uses most. */
  private static void theGreatestWireUsed() {
    Due.sentence("CUTTING, SPLICING, PUNCHING ANEW", "The wire used grows by the nominal lengths of all gaps that are punched,");
    StretchSpool x = Due.with(Due.times("h", 30));
    for (int call = 0; call < 471; call++) {
      Due.is("punched", x.punch(0, call % 3), 0);
    }
    Due.is("wire used", x.count(3), 472 * 280000);
  }
}
