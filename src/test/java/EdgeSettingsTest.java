import java.util.function.Supplier;

/** The edges of the promises 1 to 3: a new object and its settings. */
public final class EdgeSettingsTest {
  public static void main(String[] args) {
    aNewObject();
    theRangeOfRules();
    theAnswersOfSetRule();
    setRuleIsAnAct();
    theRangeOfLimits();
    theAnswersOfSetLimit();
    onlyAsTheyAreRewound();
    setLimitIsAnAct();
    Due.end();
  }

  private static void aNewObject() {
    Due.sentence("Promise 1", "Creates 6 empty spools.");
    StretchSpool x = new StretchSpool();
    for (int spool = 0; spool < 6; spool++) {
      Due.is("spool " + spool, x.spool(spool, 0), StretchSpool.NOT_POSSIBLE);
    }
    Due.is("no spool 6", x.spool(6, 0), StretchSpool.UNKNOWN);
    Due.is("no spool -1", x.spool(-1, 0), StretchSpool.UNKNOWN);
    int[] counts = {0, 0, 0, 0, 0, 0, 0, 0, 130, 0, 0};
    for (int what = 0; what < counts.length; what++) {
      Due.is("count(" + what + ")", x.count(what), counts[what]);
    }
    StretchSpool one = Made.full();
    StretchSpool other = new StretchSpool();
    Due.is("full", one.count(0), 6);
    Due.is("another one is empty", other.count(0), 0);
    Due.is("without a snapshot", other.restore(), StretchSpool.NONE);
    Due.is("without a text", other.count(10), 0);
  }

  private static Supplier<StretchSpool> withRule(int rule) {
    return () -> {
      StretchSpool x = Due.with("abc");
      x.setRule(rule);
      return x;
    };
  }

  private static void theRangeOfRules() {
    Due.sentence("Promise 2", "- `rule`: 0 to 2");
    for (int rule = 0; rule <= 2; rule++) {
      StretchSpool x = withRule(rule == 0 ? 1 : 0).get();
      Due.is("setRule(" + rule + ")", x.setRule(rule), rule == 0 ? 1 : 0);
      Due.is("the rule", x.count(7), rule);
      Whole whole = new Whole(withRule(rule));
      for (int none : new int[] {-1, 3, Integer.MIN_VALUE, Integer.MAX_VALUE}) {
        whole.refuses("setRule(" + none + ")", y -> y.setRule(none), StretchSpool.BAD_VALUE);
      }
    }
  }

  private static void theAnswersOfSetRule() {
    Due.sentence("Promise 2", "Sets the rule of stretching.");
    Due.sentence("Promise 2", "Returns the previous one; BAD_VALUE; NONE if it is so already.");
    StretchSpool x = Due.with("abc");
    int[] rules = {1, 2, 0, 2, 1, 0};
    int previous = 0;
    for (int rule : rules) {
      Due.is("from " + previous + " to " + rule, x.setRule(rule), previous);
      Due.is("stretch of the last gap", x.gap(0, 4, 3), new int[] {324, 198, 162}[rule]);
      Due.is("so already", x.setRule(rule), StretchSpool.NONE);
      previous = rule;
    }
    for (int rule = 0; rule <= 2; rule++) {
      int same = rule;
      new Whole(withRule(rule)).refuses("so already", y -> y.setRule(same), StretchSpool.NONE);
    }
  }

  private static void setRuleIsAnAct() {
    Due.sentence("Promise 2", "This is an act.");
    StretchSpool x = new StretchSpool();
    x.setRule(2);
    Due.is("recorded", x.count(9), 1);
    x.setRule(2);
    x.setRule(3);
    Due.is("NONE and an error are not", x.count(9), 1);
    Due.is("undone", x.undo(), 0);
    Due.is("the rule", x.count(7), 0);
  }

  private static Supplier<StretchSpool> withLimit(int limit) {
    return () -> {
      StretchSpool x = Due.with("abc");
      x.setLimit(limit);
      return x;
    };
  }

  private static void theRangeOfLimits() {
    Due.sentence("Promise 3", "- `limit`: 101 to 200");
    for (int limit = 101; limit <= 200; limit++) {
      StretchSpool x = new StretchSpool();
      Due.is("setLimit(" + limit + ")", x.setLimit(limit), limit == 130 ? StretchSpool.NONE : 130);
      Due.is("the limit", x.count(8), limit);
    }
    for (int limit = 101; limit <= 200; limit += 99) {
      Whole whole = new Whole(withLimit(limit));
      for (int none : new int[] {100, 201, 0, -1, 1, -130, Integer.MIN_VALUE, Integer.MAX_VALUE}) {
        whole.refuses("setLimit(" + none + ")", y -> y.setLimit(none), StretchSpool.BAD_VALUE);
      }
    }
  }

  private static void theAnswersOfSetLimit() {
    Due.sentence("Promise 3", "Sets the limit;");
    Due.sentence("Promise 3", "Returns the previous one; BAD_VALUE; NONE if it is so already.");
    StretchSpool x = new StretchSpool();
    Due.is("so at first", x.setLimit(130), StretchSpool.NONE);
    int[] limits = {101, 200, 129, 131, 130};
    int previous = 130;
    for (int limit : limits) {
      Due.is("from " + previous + " to " + limit, x.setLimit(limit), previous);
      Due.is("so already", x.setLimit(limit), StretchSpool.NONE);
      previous = limit;
    }
    new Whole(withLimit(101)).refuses("so already", y -> y.setLimit(101), StretchSpool.NONE);
    new Whole(withLimit(200)).refuses("so already", y -> y.setLimit(200), StretchSpool.NONE);
    new Whole(withLimit(130)).refuses("so already", y -> y.setLimit(130), StretchSpool.NONE);
  }

  private static void onlyAsTheyAreRewound() {
    Due.sentence("Promise 3", "wires break by it only as they are rewound.");
    StretchSpool x = Due.with("abc");
    x.rewind(0, 9, 2);
    Due.is("a limit below what is there", x.setLimit(101), 130);
    Due.is("no break", x.count(5), 0);
    Due.is("whole", x.spool(0, 0), 3);
    x.cut(0, 1);
    x.close(0);
    x.splice(0, 1);
    x.keep();
    x.restore();
    Due.is("nor by what else is done", x.count(5), 0);
    Due.is("whole", x.spool(0, 0), 3);
    Due.is("1065 thousandths", x.spool(0, 6), 1065);
    Due.is("by the pull 0 all the same", x.rewind(0, 0, 30), 1);
    Due.is("a break", x.count(5), 1);
    StretchSpool y = Due.with("abc");
    y.rewind(0, 9, 2);
    y.setLimit(101);
    y.setLimit(107);
    Due.is("within a limit that is set then", y.rewind(0, 0, 30), 30);
    y.setLimit(101);
    Due.is("punched anew", y.punch(0, 0), 0);
    Due.is("all gaps are within it", y.rewind(0, 0, 30), 30);
  }

  private static void setLimitIsAnAct() {
    Due.sentence("Promise 3", "This is an act.");
    StretchSpool x = new StretchSpool();
    x.setLimit(101);
    Due.is("recorded", x.count(9), 1);
    x.setLimit(101);
    x.setLimit(201);
    Due.is("NONE and an error are not", x.count(9), 1);
    Due.is("undone", x.undo(), 0);
    Due.is("the limit", x.count(8), 130);
  }
}
