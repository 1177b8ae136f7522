/** Promise 12: undo. */
public final class Promise12UndoTest {
  public static void main(String[] args) {
    eachActIsTakenBack();
    atMostFour();
    whatIsNoAct();
    Due.end();
  }

  private static void eachActIsTakenBack() {
    StretchSpool x = Due.with("abcdefgh");
    Due.is("setRule", taken(x, x.setRule(2)), 1);
    x.rewind(0, 7, 3);
    Due.is("setLimit", taken(x, x.setLimit(200)), 1);
    Due.is("rewind", taken(x, x.rewind(0, 9, 30)), 1);
    Due.is("cut", taken(x, x.cut(0, 3)), 1);
    x.cut(0, 3);
    Due.is("close", taken(x, x.close(0)), 1);
    Due.is("splice", taken(x, x.splice(1, 0)), 1);
    Due.is("punch", taken(x, x.punch(0, 0)), 1);
    x.keep();
    x.splice(1, 0);
    Due.is("restore", taken(x, x.restore()), 1);
    Due.text(x, "write 4 aaa");
    Due.is("perform", taken(x, x.perform()), 1);
  }

  /** Tells 1 if undo brings back what was before the act that was just done, and redoing differs. */
  private static int taken(StretchSpool x, int answer) {
    String after = Due.stateOf(x);
    int states = x.count(9);
    Due.holds("the act answered no error", answer >= 0);
    Due.is("undo()", x.undo(), states - 1);
    Due.is("the states left", x.count(9), states - 1);
    return after.equals(Due.stateOf(x)) ? 0 : 1;
  }

  private static void atMostFour() {
    StretchSpool x = new StretchSpool();
    Due.is("nothing to undo", x.undo(), StretchSpool.NONE);
    String[] states = new String[8];
    for (int act = 0; act < 8; act++) {
      states[act] = Due.stateOf(x);
      Due.perform(x, act < 6 ? "write " + act + " abc" : "rewind 0 3");
      Due.is("states", x.count(9), Math.min(4, act + 1));
    }
    for (int left = 3; left >= 0; left--) {
      Due.is("undo()", x.undo(), left);
      Due.holds("the state " + (left + 4) + " is back", states[left + 4].equals(Due.stateOf(x)));
    }
    Due.is("the older ones are dropped", x.undo(), StretchSpool.NONE);
    Due.is("four spools", x.count(0), 4);

    x.setRule(1);
    Due.is("an act behind undo", x.count(9), 1);
    Due.is("is undone as ever", x.undo(), 0);
    Due.is("rule", x.count(7), 0);
  }

  private static void whatIsNoAct() {
    StretchSpool x = Due.with("abc");
    x.keep();
    x.type('x');
    x.clearText();
    x.errorsAfter(0, 0, 9, 30);
    x.safeRewinds(0, 0, 9);
    x.bestWay(0);
    x.setRule(0);
    x.setLimit(1);
    x.close(0);
    Due.is("one state: that before the writing", x.count(9), 1);
    x.undo();
    Due.is("undo() takes that back", x.count(0), 0);
    Due.is("the snapshot is not undone", x.restore(), 1);
    Due.is("the wire is back", x.spool(0, 0), 3);
  }
}
