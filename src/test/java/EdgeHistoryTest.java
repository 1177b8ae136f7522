import java.util.function.Consumer;
import java.util.function.Supplier;
import java.util.function.ToIntFunction;

/** The edges of what the document says under HISTORY. */
public final class EdgeHistoryTest {
  private static final String HEADING = "HISTORY";

  public static void main(String[] args) {
    fourStates();
    theOldestIsDropped();
    theLatestIsRestored();
    eachActIsRecorded();
    errorsAreNot();
    whatIsNoAct();
    noSnapshotAtFirst();
    oneSnapshot();
    whatAStateIs();
    whatAStateIsNot();
    Due.end();
  }

  private static void fourStates() {
    Due.sentence(HEADING, "A history of at most 4 states is kept;");
    StretchSpool x = new StretchSpool();
    Due.is("none at first", x.count(9), 0);
    Due.is("nothing to undo", x.undo(), StretchSpool.NONE);
    for (int act = 1; act <= 8; act++) {
      x.setLimit(130 + act);
      Due.is("after acts: " + act, x.count(9), Math.min(act, 4));
    }
    for (int left = 3; left >= 0; left--) {
      Due.is("undone, left", x.undo(), left);
      Due.is("left", x.count(9), left);
      Due.is("the limit then", x.count(8), 134 + left);
    }
    Due.is("no fifth one", x.undo(), StretchSpool.NONE);
    Due.is("none left", x.count(9), 0);
    Due.is("the limit stays", x.count(8), 134);
  }

  private static void theOldestIsDropped() {
    Due.sentence(HEADING, "when one more is recorded, the oldest one is dropped;");
    StretchSpool x = new StretchSpool();
    for (int act = 1; act <= 4; act++) {
      x.setLimit(130 + act);
    }
    x.undo();
    x.undo();
    x.undo();
    Due.is("one undo more: the first state", x.undo(), 0);
    Due.is("it is not dropped by four", x.count(8), 130);
    for (int act = 1; act <= 5; act++) {
      x.setLimit(130 + act);
    }
    x.undo();
    x.undo();
    x.undo();
    Due.is("one undo more", x.undo(), 0);
    Due.is("the first state is dropped by five", x.count(8), 131);
    Due.is("and no more", x.undo(), StretchSpool.NONE);
    for (int act = 1; act <= 3; act++) {
      x.setLimit(140 + act);
    }
    Due.is("undone", x.undo(), 2);
    x.setLimit(150);
    x.setLimit(151);
    Due.is("four", x.count(9), 4);
    x.setLimit(152);
    Due.is("four still", x.count(9), 4);
    int[] limits = {151, 150, 142, 141};
    for (int back = 0; back < 4; back++) {
      Due.is("undone", x.undo(), 3 - back);
      Due.is("the limit", x.count(8), limits[back]);
    }
    Due.is("131 was dropped", x.undo(), StretchSpool.NONE);
  }

  private static void theLatestIsRestored() {
    Due.sentence(HEADING, "undo() removes and restores the latest one.");
    StretchSpool x = Due.with("ab");
    x.setRule(1);
    x.setRule(2);
    Due.is("undone", x.undo(), 2);
    Due.is("rule", x.count(7), 1);
    Due.is("it is removed: undone", x.undo(), 1);
    Due.is("rule", x.count(7), 0);
    Due.is("undoing is not undone", x.undo(), 0);
    Due.is("no wire", x.count(0), 0);
    Due.is("nothing is left", x.undo(), StretchSpool.NONE);
    Due.is("an act begins anew", x.setRule(2), 0);
    Due.is("one", x.undo(), 0);
    Due.is("rule", x.count(7), 0);
  }

  private static final String RECORDS = "Each call of a method that is described as an act, and returns no error and not NONE,"
      + " records the state that was before it.";

  private static StretchSpool two() {
    StretchSpool x = Due.with("abc");
    x.rewind(0, 9, 1);
    x.cut(0, 2);
    x.undo();
    x.cut(0, 1);
    x.keep();
    x.setLimit(131);
    x.undo();
    return x;
  }

  private static void recorded(String act, ToIntFunction<StretchSpool> asked) {
    recorded(act, EdgeHistoryTest::two, asked);
  }

  /** Counted once, and undo brings back all that was: as the object is that never did it. */
  private static void recorded(String act, Supplier<StretchSpool> maker, ToIntFunction<StretchSpool> asked) {
    StretchSpool x = maker.get();
    int states = x.count(9);
    Due.holds(act + " is possible", asked.applyAsInt(x) >= 0);
    Due.is(act + " is recorded once", x.count(9), states + 1);
    Due.is(act + " is undone", x.undo(), states);
    Whole before = new Whole(maker);
    before.refuses(act + ", undone", y -> asked.applyAsInt(y) + 1000 * y.undo(), asked.applyAsInt(maker.get()) + 1000 * states);
  }

  private static void performed(String command) {
    recorded(command, () -> {
      StretchSpool x = two();
      Due.text(x, command);
      return x;
    }, StretchSpool::perform);
  }

  private static void eachActIsRecorded() {
    Due.sentence(HEADING, RECORDS);
    recorded("setRule", x -> x.setRule(2));
    recorded("setLimit", x -> x.setLimit(200));
    recorded("rewind", x -> x.rewind(0, 0, 1));
    recorded("rewind, again and again", x -> x.rewind(0, 5, 30));
    recorded("cut", x -> x.cut(1, 1));
    recorded("splice", x -> x.splice(1, 0));
    recorded("close", x -> x.close(0));
    recorded("punch", x -> x.punch(1, 0));
    recorded("restore", StretchSpool::restore);
    performed("write 3 a");
    performed("rewind 0 9");
    performed("cut 1 0");
    performed("splice 0 1");
    performed("close 0");
    performed("punch 0 0");
    recorded("a cut that answers 0", () -> {
      StretchSpool x = new StretchSpool();
      Due.perform(x, "write 1 ab");
      return x;
    }, x -> x.cut(1, 1));
    recorded("a restore that changes nothing", () -> {
      StretchSpool x = Due.with("a");
      x.keep();
      return x;
    }, StretchSpool::restore);
    recorded("a punching that changes nothing but the wire used", () -> Due.with("a"), x -> x.punch(0, 0));
  }

  private static void errorsAreNot() {
    Due.sentence(HEADING, RECORDS);
    unrecorded(x -> {
      x.setRule(3);
      x.setRule(0);
      x.setLimit(100);
      x.setLimit(130);
      x.rewind(6, 1, 1);
      x.rewind(0, 10, 1);
      x.rewind(5, 1, 1);
      x.cut(0, 9);
      x.splice(0, 0);
      x.splice(0, 5);
      x.close(1);
      x.close(5);
      x.punch(0, 2);
      x.perform();
      Due.perform(x, "close 1");
      Due.perform(x, "close 5");
      Due.perform(x, "write 0 a");
      Due.perform(x, "rewind 0");
      x.clearText();
    });
    StretchSpool x = new StretchSpool();
    Due.is("no snapshot to restore", x.restore(), StretchSpool.NONE);
    Due.is("is not recorded", x.count(9), 0);
  }

  private static void whatIsNoAct() {
    Due.sentence(HEADING, RECORDS);
    unrecorded(x -> {
      x.type('c');
      x.clearText();
      x.keep();
      x.spool(0, 2);
      x.gap(0, 0, 3);
      x.read(0, 1, 0);
      x.errors(0, 0, 2);
      x.bestWay(0);
      x.errorsAfter(0, 0, 9, 30);
      x.safeRewinds(0, 1, 9);
      x.event(0, 0);
      x.count(9);
    });
    StretchSpool x = two();
    x.undo();
    Due.is("undo itself is not recorded", x.count(9), 2);
  }

  private static void unrecorded(Consumer<StretchSpool> calls) {
    StretchSpool x = two();
    calls.accept(x);
    Due.is("states", x.count(9), 3);
    Due.is("undone", x.undo(), 2);
    Due.is("the latest act was the cut", x.count(0), 1);
    Due.is("before it the rewind", x.undo(), 1);
    Due.is("rewinds", x.count(4), 0);
    Due.is("before it the writing", x.undo(), 0);
    Due.is("wires", x.count(0), 0);
  }

  private static void noSnapshotAtFirst() {
    Due.sentence(HEADING, "There is one snapshot, empty at first.");
    Whole empty = new Whole(Made::empty);
    empty.refuses("restore", StretchSpool::restore, StretchSpool.NONE);
    Whole acts = new Whole(() -> {
      StretchSpool x = Due.with("ab");
      x.setRule(1);
      x.undo();
      return x;
    });
    acts.refuses("acts and undo make none", StretchSpool::restore, StretchSpool.NONE);
    StretchSpool x = new StretchSpool();
    Due.is("kept with no wire", x.keep(), 0);
    Due.is("is a snapshot", x.restore(), 0);
  }

  private static void oneSnapshot() {
    Due.sentence(HEADING, "There is one snapshot, empty at first.");
    StretchSpool x = Due.with("ab");
    x.keep();
    x.setLimit(140);
    x.keep();
    x.setLimit(150);
    Due.is("restored", x.restore(), 1);
    Due.is("the later one", x.count(8), 140);
    x.setLimit(160);
    Due.is("restored again", x.restore(), 1);
    Due.is("the same one", x.count(8), 140);
  }

  private static final String STATE = "A state is everything but the text, the history and the snapshot.";

  private static void changeAll(StretchSpool x) {
    x.setRule(1);
    x.setLimit(101);
    x.rewind(1, 6, 1);
    x.rewind(0, 5, 3);
  }

  /** Wires, log, settings and sums: by the snapshot, and by undo four times. */
  private static void whatAStateIs() {
    Due.sentence(HEADING, STATE);
    StretchSpool x = state();
    x.keep();
    String kept = Due.stateOf(x);
    changeAll(x);
    Due.is("breaks", x.count(5), 2);
    Due.is("letters lost", x.count(6), 6);
    Due.is("restored", x.restore(), 2);
    Due.holds("as it was", kept.equals(Due.stateOf(x)));
    StretchSpool y = state();
    changeAll(y);
    for (int left = 3; left >= 0; left--) {
      Due.is("undone", y.undo(), left);
    }
    Due.holds("as it was", kept.equals(Due.stateOf(y)));
  }

  private static StretchSpool state() {
    StretchSpool x = Due.with("ab");
    Due.perform(x, "write 1 abcdefgh");
    x.rewind(0, 3, 1);
    return x;
  }

  private static void whatAStateIsNot() {
    Due.sentence(HEADING, STATE);
    StretchSpool x = state();
    Due.text(x, "close 0");
    x.keep();
    x.setRule(1);
    Due.text(x, "cut 0 1");
    x.type('0');
    Due.is("undone", x.undo(), 3);
    Due.is("the text stays", x.count(10), 8);
    x.setRule(2);
    Due.is("restored", x.restore(), 2);
    Due.is("the text stays", x.count(10), 8);
    Due.is("its letters, too", x.perform(), StretchSpool.UNKNOWN);
    Due.is("the history stays, and grows by the act", x.count(9), 4);
    Due.is("restoring is undone", x.undo(), 3);
    Due.is("to what was before it", x.count(7), 2);
    x.undo();
    x.undo();
    x.undo();
    Due.is("before all that is left", x.count(9), 0);
    Due.is("the snapshot stays", x.restore(), 2);
    Due.is("what it is is not changed by acts", x.count(4), 1);
    Due.is("it is recorded", x.count(9), 1);
  }
}
