import java.util.function.ToIntFunction;

/** Promise 12: undo. */
public final class Promise12UndoTest {
  public static void main(String[] args) {
    eachActIsTakenBack();
    atMostFour();
    whatIsNoAct();
    Due.end();
  }

  private static void eachActIsTakenBack() {
    takesBack("setRule", x -> x.setRule(2));
    takesBack("setLimit", x -> x.setLimit(200));
    takesBack("rewind", x -> x.rewind(0, 9, 30));
    takesBack("cut", x -> x.cut(0, 3));
    takesBack("close", x -> x.close(0));
    takesBack("splice", x -> x.splice(1, 0));
    takesBack("punch", x -> x.punch(0, 0));
    takesBack("restore", StretchSpool::restore);
    takesBack("perform", StretchSpool::perform);
  }

  private static StretchSpool made() {
    StretchSpool x = Due.with("abcdefgh");
    x.keep();
    x.rewind(0, 7, 3);
    x.cut(0, 5);
    Due.text(x, "write 4 aaa");
    return x;
  }

  /** The act changes the state, and undo brings back what was before it. */
  private static void takesBack(String act, ToIntFunction<StretchSpool> asked) {
    String before = Due.stateOf(made());
    StretchSpool x = made();
    Due.holds(act + " answers no error", asked.applyAsInt(x) >= 0);
    Due.holds(act + " changes the state", !before.equals(Due.stateOf(x)));
    int states = x.count(9);
    Due.is("undo()", x.undo(), states - 1);
    Due.is("the states left", x.count(9), states - 1);
    Due.holds(act + " is taken back", before.equals(Due.stateOf(x)));
  }

  private static StretchSpool after(int acts) {
    StretchSpool x = new StretchSpool();
    for (int act = 0; act < acts; act++) {
      Due.perform(x, act < 6 ? "write " + act + " abc" : "rewind 0 3");
    }
    return x;
  }

  private static void atMostFour() {
    Due.is("nothing to undo", new StretchSpool().undo(), StretchSpool.NONE);
    for (int acts = 0; acts <= 8; acts++) {
      Due.is("states", after(acts).count(9), Math.min(4, acts));
    }
    for (int times = 1; times <= 4; times++) {
      StretchSpool undone = after(8);
      for (int time = 1; time <= times; time++) {
        Due.is("undo()", undone.undo(), 4 - time);
      }
      Due.holds("what was " + times + " acts before", Due.stateOf(undone).equals(Due.stateOf(after(8 - times))));
    }
    StretchSpool x = after(8);
    for (int left = 3; left >= 0; left--) {
      Due.is("undo()", x.undo(), left);
    }
    Due.is("the older ones are dropped", x.undo(), StretchSpool.NONE);
    Due.is("four spools", x.count(0), 4);

    x.setRule(1);
    Due.is("an act behind undo", x.count(9), 1);
    Due.is("is undone as ever", x.undo(), 0);
    Due.is("rule", x.count(7), 0);
  }

  private static void whatIsNoAct() {
    StretchSpool x = Due.with("abc");
    x.keep();
    x.type('x');
    x.clearText();
    x.errorsAfter(0, 0, 9, 30);
    x.safeRewinds(0, 0, 9);
    x.bestWay(0);
    x.setRule(0);
    x.setLimit(1);
    x.close(0);
    Due.is("one state: that before the writing", x.count(9), 1);
    x.undo();
    Due.is("undo() takes that back", x.count(0), 0);
    Due.is("the snapshot is not undone", x.restore(), 1);
    Due.is("the wire is back", x.spool(0, 0), 3);
  }
}
