/** Promise 14: restore. */
public final class Promise14RestoreTest {
  public static void main(String[] args) {
    StretchSpool x = new StretchSpool();
    Due.is("no snapshot", x.restore(), StretchSpool.NONE);
    Due.is("NONE is not recorded", x.count(9), 0);
    Due.perform(x, "write 0 abcdefgh");
    x.setRule(1);
    x.rewind(0, 5, 2);
    x.keep();
    String kept = Due.stateOf(x);
    x.cut(0, 2);
    x.setLimit(101);
    x.rewind(1, 9, 30);
    String before = Due.stateOf(x);
    Due.is("restore()", x.restore(), 1);
    Due.holds("wires, settings, sums and log are back", kept.equals(Due.stateOf(x)));
    Due.is("the history goes on", x.count(9), 4);
    x.undo();
    Due.holds("it can be undone", before.equals(Due.stateOf(x)));
    Due.is("the snapshot stays", x.restore(), 1);
    Due.is("restored twice", x.restore(), 1);
    Due.is("what it is stays", x.spool(0, 0), 8);
    whatIsDoneBehind();
    Due.end();
  }

  private static void whatIsDoneBehind() {
    StretchSpool x = Due.with("abcd");
    x.keep();
    String kept = Due.stateOf(x);
    x.restore();
    x.rewind(0, 9, 1);
    x.punch(0, 0);
    Due.is("what is done behind does not touch it", x.restore(), 1);
    Due.holds("the snapshot is as it was", kept.equals(Due.stateOf(x)));
    Due.text(x, "cut 0 1");
    x.restore();
    Due.is("the text is not restored", x.count(10), 7);
    Due.is("and can be performed", x.perform(), 1);
  }
}
