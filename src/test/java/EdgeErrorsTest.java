/** The edges of what the document says under ERRORS. */
public final class EdgeErrorsTest {
  private static final String HEADING = "ERRORS";
  private static final int UNKNOWN = StretchSpool.UNKNOWN;
  private static final int BAD_VALUE = StretchSpool.BAD_VALUE;
  private static final int FULL = StretchSpool.FULL;
  private static final int NOT_POSSIBLE = StretchSpool.NOT_POSSIBLE;
  private static final int NONE = StretchSpool.NONE;

  public static void main(String[] args) {
    constants();
    theOrderOfActs();
    theOrderOfCommands();
    theOrderOfQuestions();
    theOrderOnAFullObject();
    noneIsNoError();
    nothingChangesOnAnEmptyObject();
    nothingChangesOnAMixedObject();
    nothingChangesOnAFullObject();
    Due.end();
  }

  private static void constants() {
    Due.sentence(HEADING, "Errors are reported by the constants below.");
    Due.sentence(HEADING, "The constants: `UNKNOWN = -1`: There is no such spool, gap or letter.");
    Due.is("UNKNOWN", UNKNOWN, -1);
    StretchSpool x = Due.with("ab");
    Due.is("no such spool", x.spool(6, 0), -1);
    Due.is("no such gap", x.gap(0, 4, 0), -1);
    Due.is("no such letter", x.read(0, 0, 2), -1);
    Due.sentence(HEADING, "`BAD_VALUE = -2`: Another argument is out of range.");
    Due.is("BAD_VALUE", BAD_VALUE, -2);
    Due.is("no such rule", x.setRule(3), -2);
    Due.sentence(HEADING, "`FULL = -3`: There is no more room.");
    Due.is("FULL", FULL, -3);
    Due.is("no more room", Due.perform(x, "write 1 " + Due.times("a", 31)), -3);
    Due.sentence(HEADING, "`NOT_POSSIBLE = -4`: This is not possible.");
    Due.is("NOT_POSSIBLE", NOT_POSSIBLE, -4);
    Due.is("not possible", x.close(1), -4);
    Due.sentence(HEADING, "`NONE = -5`: There is no such thing; not an error.");
    Due.is("NONE", NONE, -5);
    Due.is("no such thing", x.errors(0, 0, 2), -5);
  }

  private static final String ORDER = "Where several errors can apply, the order of the @return line is the order of the checks.";

  private static void theOrderOfActs() {
    Due.sentence(HEADING, ORDER);
    Whole mixed = new Whole(Made::mixed);
    mixed.refuses("rewind: spool and pull", x -> x.rewind(6, 10, 1), UNKNOWN);
    mixed.refuses("rewind: spool and times", x -> x.rewind(-1, 1, 0), UNKNOWN);
    mixed.refuses("rewind: spool, pull and times", x -> x.rewind(-1, -1, 31), UNKNOWN);
    mixed.refuses("rewind: pull and empty", x -> x.rewind(5, 10, 1), BAD_VALUE);
    mixed.refuses("rewind: times and empty", x -> x.rewind(5, 1, 31), BAD_VALUE);
    mixed.refuses("rewind: times 0 and empty", x -> x.rewind(5, 1, 0), BAD_VALUE);
    mixed.refuses("splice: both the same, and no spools", x -> x.splice(6, 6), UNKNOWN);
    mixed.refuses("splice: both the same, and below", x -> x.splice(-1, -1), UNKNOWN);
    mixed.refuses("splice: no spool, and empty", x -> x.splice(5, 6), UNKNOWN);
    mixed.refuses("splice: empty, and no spool", x -> x.splice(6, 5), UNKNOWN);
    mixed.refuses("splice: both the same, and empty", x -> x.splice(5, 5), BAD_VALUE);
    mixed.refuses("punch: spool and way", x -> x.punch(6, 3), UNKNOWN);
    mixed.refuses("punch: way and empty", x -> x.punch(5, 3), BAD_VALUE);
    mixed.refuses("punch: way below and empty", x -> x.punch(5, -1), BAD_VALUE);
    mixed.refuses("punch: way and open", x -> x.punch(2, 3), BAD_VALUE);
    Whole unreadable = new Whole(() -> Made.withLetter("883", 9500, "h"));
    unreadable.refuses("punch: way and unreadable", x -> x.punch(1, 3), BAD_VALUE);
    unreadable.refuses("punch: unreadable", x -> x.punch(1, 0), NOT_POSSIBLE);
  }

  private static void performed(String command, int due) {
    Whole mixed = new Whole(() -> {
      StretchSpool x = Made.mixed();
      Due.text(x, command);
      return x;
    });
    mixed.refuses(command, StretchSpool::perform, due);
  }

  private static void theOrderOfCommands() {
    Due.sentence(HEADING, ORDER);
    performed("write 6 i", -108);
    performed("write 0 i", -108);
    performed("close 6 ", -107);
    performed("write 6 " + Due.times("a", 31), UNKNOWN);
    performed("write 0 " + Due.times("a", 31), NOT_POSSIBLE);
    performed("write 5 " + Due.times("a", 31), FULL);
    performed("rewind 6 10", UNKNOWN);
    performed("rewind 5 10", BAD_VALUE);
    performed("rewind 5 9", NOT_POSSIBLE);
    performed("cut 6 9", UNKNOWN);
    performed("splice 6 6", UNKNOWN);
    performed("splice 5 5", BAD_VALUE);
    performed("splice 5 0", NOT_POSSIBLE);
    performed("punch 6 3", UNKNOWN);
    performed("punch 5 3", BAD_VALUE);
    performed("punch 5 2", NOT_POSSIBLE);
    performed("close 6", UNKNOWN);
    performed("close 5", NOT_POSSIBLE);
    performed("close 0", NONE);
  }

  private static void theOrderOfQuestions() {
    Due.sentence(HEADING, ORDER);
    Whole mixed = new Whole(Made::mixed);
    mixed.refuses("spool: spool and what", x -> x.spool(6, 7), UNKNOWN);
    mixed.refuses("spool: what and empty", x -> x.spool(5, 7), BAD_VALUE);
    mixed.refuses("gap: spool, gap and what", x -> x.gap(6, -1, 4), UNKNOWN);
    mixed.refuses("gap: gap and what", x -> x.gap(0, 10, 4), UNKNOWN);
    mixed.refuses("gap: an empty spool's and what", x -> x.gap(5, 0, 4), UNKNOWN);
    mixed.refuses("read: spool and way", x -> x.read(6, 3, 0), UNKNOWN);
    mixed.refuses("read: letter and way", x -> x.read(0, 3, 8), UNKNOWN);
    mixed.refuses("read: letter and open", x -> x.read(2, 2, 2), UNKNOWN);
    mixed.refuses("read: no letter, and open", x -> x.read(1, 2, 0), UNKNOWN);
    mixed.refuses("read: an empty spool's letter", x -> x.read(5, 2, 0), UNKNOWN);
    mixed.refuses("read: way and open", x -> x.read(2, 3, 0), BAD_VALUE);
    mixed.refuses("errors: spool, way and what", x -> x.errors(6, 3, 3), UNKNOWN);
    mixed.refuses("errors: way and empty", x -> x.errors(5, 3, 0), BAD_VALUE);
    mixed.refuses("errors: what and empty", x -> x.errors(5, 0, 3), BAD_VALUE);
    mixed.refuses("errors: what and open", x -> x.errors(2, 2, 3), BAD_VALUE);
    mixed.refuses("errorsAfter: spool and way", x -> x.errorsAfter(6, 2, 0, 0), UNKNOWN);
    mixed.refuses("errorsAfter: spool and times", x -> x.errorsAfter(-1, 0, 0, 31), UNKNOWN);
    mixed.refuses("errorsAfter: way and empty", x -> x.errorsAfter(5, 2, 0, 0), BAD_VALUE);
    mixed.refuses("errorsAfter: pull and empty", x -> x.errorsAfter(5, 0, 10, 0), BAD_VALUE);
    mixed.refuses("errorsAfter: times and empty", x -> x.errorsAfter(5, 0, 0, 31), BAD_VALUE);
    mixed.refuses("errorsAfter: way and open", x -> x.errorsAfter(2, 2, 0, 0), BAD_VALUE);
    mixed.refuses("safeRewinds: spool and way", x -> x.safeRewinds(6, 2, 0), UNKNOWN);
    mixed.refuses("safeRewinds: way and empty", x -> x.safeRewinds(5, 2, 0), BAD_VALUE);
    mixed.refuses("safeRewinds: pull and empty", x -> x.safeRewinds(5, 0, -1), BAD_VALUE);
    mixed.refuses("safeRewinds: way and open", x -> x.safeRewinds(2, 2, 0), BAD_VALUE);
    mixed.refuses("event: what, and none", x -> x.event(99, 3), BAD_VALUE);
    mixed.refuses("event: back and what", x -> x.event(-1, 3), BAD_VALUE);
  }

  private static void theOrderOnAFullObject() {
    Due.sentence(HEADING, ORDER);
    Whole full = new Whole(Made::full);
    full.refuses("cut: spool, and no empty one", x -> x.cut(6, 0), UNKNOWN);
    full.refuses("cut: letter, and no empty spool", x -> x.cut(0, 30), UNKNOWN);
    full.refuses("cut: letter below, and no empty spool", x -> x.cut(0, -1), UNKNOWN);
    full.refuses("cut: no empty spool", x -> x.cut(0, 29), FULL);
    full.refuses("splice: no spool, and too many letters", x -> x.splice(0, 6), UNKNOWN);
    full.refuses("splice: both the same, and too many letters", x -> x.splice(0, 0), BAD_VALUE);
    full.refuses("splice: too many letters", x -> x.splice(0, 1), FULL);
    full.refuses("write: not empty, and too many letters", StretchSpool::perform, NOT_POSSIBLE);
  }

  private static void noneIsNoError() {
    Due.sentence(HEADING, "NONE is no error; it is returned only if no error applies.");
    StretchSpool x = Due.with("ab");
    Due.is("close: none", x.close(0), NONE);
    Due.is("close: no spool", x.close(6), UNKNOWN);
    Due.is("close: empty", x.close(1), NOT_POSSIBLE);
    Due.is("truth of the beginning: none", x.gap(0, 0, 2), NONE);
    Due.is("truth of the end: none", x.gap(0, 3, 2), NONE);
    Due.is("truth of what is no gap", x.gap(0, 4, 2), UNKNOWN);
    Due.is("first error: none", x.errors(0, 2, 2), NONE);
    Due.is("first error of an empty spool", x.errors(1, 2, 2), NOT_POSSIBLE);
    Due.is("first error of no spool", x.errors(6, 2, 2), UNKNOWN);
    Due.is("first error by no way", x.errors(0, 3, 2), BAD_VALUE);
    x.cut(0, 0);
    Due.is("first error of none, open", x.errors(0, 2, 2), NOT_POSSIBLE);
    Due.is("first error of none", x.errors(0, 0, 2), NONE);
    Due.is("event: none", x.event(2, 0), NONE);
    Due.is("event: bad", x.event(2, 3), BAD_VALUE);
    Due.is("rule: none", x.setRule(0), NONE);
    Due.is("limit: none", x.setLimit(130), NONE);
    StretchSpool y = new StretchSpool();
    Due.is("undo: none", y.undo(), NONE);
    Due.is("restore: none", y.restore(), NONE);
  }

  private static final String NOTHING = "A call that returns an error or NONE changes nothing.";

  private static void nothingChangesOnAnEmptyObject() {
    Due.sentence(HEADING, NOTHING);
    Whole empty = new Whole(Made::empty);
    empty.refuses("setRule(3)", x -> x.setRule(3), BAD_VALUE);
    empty.refuses("setRule(0)", x -> x.setRule(0), NONE);
    empty.refuses("setLimit(201)", x -> x.setLimit(201), BAD_VALUE);
    empty.refuses("setLimit(130)", x -> x.setLimit(130), NONE);
    empty.refuses("rewind", x -> x.rewind(0, 9, 30), NOT_POSSIBLE);
    empty.refuses("cut", x -> x.cut(0, 0), UNKNOWN);
    empty.refuses("splice", x -> x.splice(0, 1), NOT_POSSIBLE);
    empty.refuses("close", x -> x.close(0), NOT_POSSIBLE);
    empty.refuses("punch", x -> x.punch(0, 0), NOT_POSSIBLE);
    empty.refuses("perform", StretchSpool::perform, -100);
    empty.refuses("undo", StretchSpool::undo, NONE);
    empty.refuses("restore", StretchSpool::restore, NONE);
    empty.refuses("spool", x -> x.spool(0, 0), NOT_POSSIBLE);
    empty.refuses("gap", x -> x.gap(0, 0, 0), UNKNOWN);
    empty.refuses("read", x -> x.read(0, 0, 0), UNKNOWN);
    empty.refuses("errors", x -> x.errors(0, 0, 0), NOT_POSSIBLE);
    empty.refuses("bestWay", x -> x.bestWay(0), NOT_POSSIBLE);
    empty.refuses("errorsAfter", x -> x.errorsAfter(0, 0, 9, 30), NOT_POSSIBLE);
    empty.refuses("safeRewinds", x -> x.safeRewinds(0, 0, 9), NOT_POSSIBLE);
    empty.refuses("event", x -> x.event(0, 0), NONE);
    empty.refuses("count", x -> x.count(11), BAD_VALUE);
  }

  private static void nothingChangesOnAMixedObject() {
    Due.sentence(HEADING, NOTHING);
    Whole mixed = new Whole(Made::mixed);
    mixed.refuses("setRule(-1)", x -> x.setRule(-1), BAD_VALUE);
    mixed.refuses("setRule(0)", x -> x.setRule(0), NONE);
    mixed.refuses("setLimit(100)", x -> x.setLimit(100), BAD_VALUE);
    mixed.refuses("setLimit(140)", x -> x.setLimit(140), NONE);
    mixed.refuses("rewind by 10", x -> x.rewind(0, 10, 30), BAD_VALUE);
    mixed.refuses("rewind never", x -> x.rewind(0, 9, 0), BAD_VALUE);
    mixed.refuses("rewind of the empty one", x -> x.rewind(5, 9, 30), NOT_POSSIBLE);
    mixed.refuses("cut of no letter", x -> x.cut(1, 0), UNKNOWN);
    mixed.refuses("cut behind the last letter", x -> x.cut(0, 8), UNKNOWN);
    mixed.refuses("cut of the empty one", x -> x.cut(5, 0), UNKNOWN);
    mixed.refuses("splice to itself", x -> x.splice(0, 0), BAD_VALUE);
    mixed.refuses("splice of the empty one", x -> x.splice(0, 5), NOT_POSSIBLE);
    mixed.refuses("splice to the empty one", x -> x.splice(5, 0), NOT_POSSIBLE);
    mixed.refuses("close of a closed one", x -> x.close(0), NONE);
    mixed.refuses("close of a closed one without letters", x -> x.close(3), NONE);
    mixed.refuses("close of the empty one", x -> x.close(5), NOT_POSSIBLE);
    mixed.refuses("punch of an open one by both ends", x -> x.punch(2, 2), NOT_POSSIBLE);
    mixed.refuses("punch of an open one without letters", x -> x.punch(1, 2), NOT_POSSIBLE);
    mixed.refuses("punch of the empty one", x -> x.punch(5, 0), NOT_POSSIBLE);
    mixed.refuses("errors of an open one by both ends", x -> x.errors(2, 2, 0), NOT_POSSIBLE);
    mixed.refuses("errors: none", x -> x.errors(0, 0, 2), NONE);
    mixed.refuses("gap without a truth", x -> x.gap(0, 0, 2), NONE);
    mixed.refuses("event", x -> x.event(10, 0), NONE);
    mixed.refuses("count", x -> x.count(-1), BAD_VALUE);
    Whole unreadable = new Whole(() -> Made.withLetter("883", 9500, "h"));
    unreadable.refuses("punch of what cannot be read", x -> x.punch(1, 0), NOT_POSSIBLE);
    unreadable.refuses("punch by what is read", x -> x.punch(1, 1), NOT_POSSIBLE);
  }

  private static void nothingChangesOnAFullObject() {
    Due.sentence(HEADING, NOTHING);
    Whole full = new Whole(Made::full);
    full.refuses("setRule(3)", x -> x.setRule(3), BAD_VALUE);
    full.refuses("setRule(1)", x -> x.setRule(1), NONE);
    full.refuses("setLimit(201)", x -> x.setLimit(201), BAD_VALUE);
    full.refuses("setLimit(130)", x -> x.setLimit(130), NONE);
    full.refuses("rewind by -1", x -> x.rewind(0, -1, 1), BAD_VALUE);
    full.refuses("rewind too often", x -> x.rewind(0, 9, 31), BAD_VALUE);
    full.refuses("cut without room", x -> x.cut(0, 0), FULL);
    full.refuses("cut behind the last letter", x -> x.cut(0, 30), UNKNOWN);
    full.refuses("splice without room", x -> x.splice(5, 0), FULL);
    full.refuses("splice to itself", x -> x.splice(5, 5), BAD_VALUE);
    full.refuses("close", x -> x.close(5), NONE);
    full.refuses("punch", x -> x.punch(0, 3), BAD_VALUE);
    full.refuses("type", x -> x.type('a'), FULL);
    full.refuses("perform", StretchSpool::perform, NOT_POSSIBLE);
    full.refuses("spool", x -> x.spool(0, 7), BAD_VALUE);
    full.refuses("gap", x -> x.gap(0, 32, 0), UNKNOWN);
    full.refuses("read", x -> x.read(0, 0, 30), UNKNOWN);
    full.refuses("errors", x -> x.errors(0, 0, 3), BAD_VALUE);
    full.refuses("bestWay", x -> x.bestWay(6), UNKNOWN);
    full.refuses("errorsAfter", x -> x.errorsAfter(0, 2, 9, 30), BAD_VALUE);
    full.refuses("safeRewinds", x -> x.safeRewinds(0, 2, 9), BAD_VALUE);
    full.refuses("event", x -> x.event(10, 0), NONE);
    full.refuses("count", x -> x.count(11), BAD_VALUE);
  }
}
