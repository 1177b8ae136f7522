/** Promise 13: keep. */
public final class Promise13KeepTest {
  public static void main(String[] args) {
    StretchSpool x = new StretchSpool();
    Due.is("six empty spools", x.keep(), 0);
    Due.is("it is a snapshot all the same", x.restore(), 0);
    Due.perform(x, "write 2 abc");
    Due.perform(x, "write 5 abc");
    String kept = Due.stateOf(x);
    int states = x.count(9);
    Due.is("two wires", x.keep(), 2);
    Due.is("it is no act", x.count(9), states);
    Due.holds("it changes no state", kept.equals(Due.stateOf(x)));
    x.rewind(2, 9, 4);
    x.setRule(2);
    x.setLimit(150);
    x.cut(5, 0);
    Due.is("restore()", x.restore(), 2);
    Due.holds("all is back", kept.equals(Due.stateOf(x)));
    inPlaceOfTheFirst();
    Due.end();
  }

  private static void inPlaceOfTheFirst() {
    StretchSpool x = Due.with("abc");
    x.keep();
    Due.perform(x, "write 5 a");
    String later = Due.stateOf(x);
    Due.is("another snapshot", x.keep(), 2);
    x.setRule(1);
    Due.is("takes the place of the first", x.restore(), 2);
    Due.holds("the later one is back", later.equals(Due.stateOf(x)));
  }
}
