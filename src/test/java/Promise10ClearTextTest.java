/** Promise 10: clearText. */
public final class Promise10ClearTextTest {
  public static void main(String[] args) {
    StretchSpool x = new StretchSpool();
    Due.is("an empty text", x.clearText(), 0);
    Due.text(x, "write 0 ab");
    Due.is("ten characters", x.clearText(), 10);
    Due.is("none is left", x.count(10), 0);
    Due.is("emptied already", x.clearText(), 0);
    Due.is("no command is left", x.perform(), -100);
    Due.text(x, "write 0");
    Due.is("what was behind it is gone", x.perform(), -107);
    Due.text(x, Due.times("z", 50));
    Due.is("a full one", x.clearText(), 50);
    Due.is("there is room again", x.type('a'), 1);
    Due.is("it is no act", x.count(9), 0);

    Due.perform(x, "write 0 ab");
    x.undo();
    Due.is("the text is no part of the state", x.count(10), 10);
    x.keep();
    x.clearText();
    x.restore();
    Due.is("nor of the snapshot", x.count(10), 0);
    Due.end();
  }
}
