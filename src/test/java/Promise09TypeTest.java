/** Promise 9: type. */
public final class Promise09TypeTest {
  public static void main(String[] args) {
    StretchSpool x = new StretchSpool();
    for (int length = 1; length <= 50; length++) {
      Due.is("type, the character " + length, x.type(length < 9 ? "write 0 ".charAt(length - 1) : 'a'), length);
    }
    Due.is("the length", x.count(10), 50);
    Due.is("no room", x.type('a'), StretchSpool.FULL);
    Due.is("the length stays", x.count(10), 50);
    Due.is("the text stays: 42 letters", x.perform(), StretchSpool.FULL);
    Due.is("typing is no act", x.count(9), 0);

    StretchSpool any = new StretchSpool();
    char[] odd = {0, (char) 10, (char) 233, (char) 0x3b1, (char) 0xd800, (char) 0xffff};
    for (int place = 0; place < odd.length; place++) {
      Due.is("any character", any.type(odd[place]), place + 1);
    }
    Due.is("their fault", any.perform(), -100);
    any.clearText();
    Due.is("write, then a sign above 255", Due.perform(any, "write" + (char) (' ' + 256) + "0 a"), -105);
    Due.is("a letter and 256 is none", Due.perform(any, "write 0 a" + (char) ('b' + 256)), -109);
    Due.end();
  }
}
