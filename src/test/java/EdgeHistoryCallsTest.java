/** The edges of the promises 12 to 14: undo, keep and restore. */
public final class EdgeHistoryCallsTest {
  public static void main(String[] args) {
    undo();
    undoOfNothing();
    keep();
    keepInPlace();
    restore();
    restoreNothing();
    itStays();
    restoreIsAnAct();
    Due.end();
  }

  private static void undo() {
    Due.sentence("Promise 12", "Removes and restores the latest state of the history.");
    Due.sentence("Promise 12", "Returns the number of states that are left; NONE if the history is empty.");
    StretchSpool x = Due.with("ab");
    Due.is("the only one", x.undo(), 0);
    Due.is("none is left", x.undo(), StretchSpool.NONE);
    Due.is("no wire", x.count(0), 0);
    for (int acts = 1; acts <= 6; acts++) {
      StretchSpool y = new StretchSpool();
      for (int act = 1; act <= acts; act++) {
        y.setLimit(150 + act);
      }
      Due.is("left of " + acts, y.undo(), Math.min(acts, 4) - 1);
      Due.is("the limit before the latest", y.count(8), acts == 1 ? 130 : 149 + acts);
    }
    StretchSpool full = Made.full();
    for (int left = 3; left >= 0; left--) {
      Due.is("of a full object", full.undo(), left);
      Due.is("as told", full.count(9), left);
    }
    Due.is("none", full.undo(), StretchSpool.NONE);
    Due.is("the text is full still", full.count(10), 50);
    Due.is("six wires still", full.count(0), 6);
  }

  private static void undoOfNothing() {
    Due.sentence("Promise 12", "NONE if the history is empty.");
    new Whole(Made::empty).refuses("a new object", StretchSpool::undo, StretchSpool.NONE);
    new Whole(() -> {
      StretchSpool x = Made.mixed();
      for (int time = 0; time < 3; time++) {
        x.undo();
      }
      return x;
    }).refuses("all is undone", StretchSpool::undo, StretchSpool.NONE);
    StretchSpool x = new StretchSpool();
    x.keep();
    x.setRule(7);
    x.type('a');
    Due.is("what is no act cannot be undone", x.undo(), StretchSpool.NONE);
    Due.is("the text stays", x.count(10), 1);
  }

  private static void keep() {
    Due.sentence("Promise 13", "Takes a snapshot of the state,");
    Due.sentence("Promise 13", "Returns how many spools are not empty.");
    Due.is("none", new StretchSpool().keep(), 0);
    Due.is("one", Due.with("a").keep(), 1);
    Due.is("five, two of them without letters", Made.mixed().keep(), 5);
    Due.is("six", Made.full().keep(), 6);
    Due.holds("all that a state is",
        Whole.state(Made::full).equals(Whole.state(EdgeHistoryCallsTest::keptAndRestored)));
    Due.is("the rule", keptAndRestored().count(7), 1);
    StretchSpool y = Due.with("a");
    Due.is("it is no act", y.keep() + 10 * y.count(9), 11);
    Due.is("it is no event", y.event(1, 0), StretchSpool.NONE);
  }

  private static StretchSpool keptAndRestored() {
    StretchSpool x = Made.full();
    x.keep();
    x.setRule(2);
    x.rewind(0, 9, 30);
    x.restore();
    return x;
  }

  private static void keepInPlace() {
    Due.sentence("Promise 13", "in place of the one that was.");
    StretchSpool x = new StretchSpool();
    x.keep();
    Due.perform(x, "write 3 ab");
    Due.is("the second one", x.keep(), 1);
    x.setRule(2);
    Due.is("restored", x.restore(), 1);
    Due.is("with the wire", x.spool(3, 0), 2);
    Due.is("the rule", x.count(7), 0);
    x.undo();
    x.undo();
    x.undo();
    Due.is("no wire", x.count(0), 0);
    Due.is("an empty one in place of one with a wire", x.keep(), 0);
    x.setLimit(150);
    Due.is("restored", x.restore(), 0);
    Due.is("the limit", x.count(8), 130);
  }

  private static void restore() {
    Due.sentence("Promise 14", "Restores the state of the snapshot,");
    Due.sentence("Promise 14", "Returns how many spools are not empty then;");
    StretchSpool x = Made.mixed();
    x.splice(0, 1);
    x.splice(0, 4);
    Due.is("three before", x.count(0), 3);
    Due.is("five then", x.restore(), 5);
    Due.is("five", x.count(0), 5);
    Due.is("the limit of the snapshot", x.count(8), 130);
    StretchSpool y = new StretchSpool();
    y.keep();
    Due.perform(y, "write 0 a");
    Due.is("none then", y.restore(), 0);
    Due.is("no wire used", y.count(3), 0);
    Due.is("no event", y.event(0, 0), StretchSpool.NONE);
    StretchSpool full = Made.full();
    Due.is("six then", full.restore(), 6);
    Due.is("the states are four still", full.count(9), 4);
    Due.is("the text is full still", full.count(10), 50);
  }

  private static void restoreNothing() {
    Due.sentence("Promise 14", "NONE if there is no snapshot.");
    new Whole(Made::empty).refuses("a new object", StretchSpool::restore, StretchSpool.NONE);
    new Whole(() -> {
      StretchSpool x = Due.with("ab");
      x.rewind(0, 9, 2);
      x.undo();
      x.cut(0, 1);
      return x;
    }).refuses("an object with wires", StretchSpool::restore, StretchSpool.NONE);
    Due.is("one with an empty snapshot", kept().restore(), 0);
  }

  private static StretchSpool kept() {
    StretchSpool x = new StretchSpool();
    x.keep();
    return x;
  }

  private static void itStays() {
    Due.sentence("Promise 14", "which stays.");
    StretchSpool x = Due.with("abc");
    x.keep();
    for (int time = 0; time < 3; time++) {
      x.rewind(0, 9, 2);
      x.cut(0, 1);
      x.punch(0, 0);
      Due.is("restored", x.restore(), 1);
      Due.is("as it was", x.spool(0, 2), 19000);
      Due.is("its letters", x.spool(0, 0), 3);
      Due.is("no rewinds", x.spool(0, 4), 0);
    }
    x.undo();
    x.undo();
    Due.is("undo does not change it", x.restore(), 1);
    Due.is("as it was", x.spool(0, 2), 19000);
    x.rewind(0, 9, 1);
    x.undo();
    Due.is("nor does what is undone", x.spool(0, 2), 19000);
  }

  private static void restoreIsAnAct() {
    Due.sentence("Promise 14", "This is an act.");
    StretchSpool x = Due.with("abc");
    x.keep();
    x.setRule(2);
    x.restore();
    Due.is("recorded", x.count(9), 3);
    Due.is("undone", x.undo(), 2);
    Due.is("the rule is back", x.count(7), 2);
    x.undo();
    Due.is("a restore that changes nothing", x.restore(), 1);
    Due.is("is recorded as well", x.count(9), 2);
    Due.is("undone", x.undo(), 1);
    Due.is("a wire still", x.count(0), 1);
    Due.is("NONE is not recorded", new StretchSpool().restore(), StretchSpool.NONE);
  }
}
