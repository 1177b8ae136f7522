/** Promise 11: perform. */
public final class Promise11PerformTest {
  public static void main(String[] args) {
    words();
    numbers();
    letters();
    theOtherCommands();
    write();
    records();
    Due.end();
  }

  private static void fault(String text, int fault) {
    StretchSpool x = new StretchSpool();
    Due.text(x, text);
    String before = Due.all(x);
    Due.is("perform of \"" + text + "\"", x.perform(), -100 - fault);
    Due.holds("a fault changes nothing", before.equals(Due.all(x)));
  }

  private static void words() {
    fault("", 0);
    fault(" ", 0);
    fault(" write 0 a", 0);
    fault("Write 0 a", 0);
    fault("WRITE 0 a", 0);
    fault("0", 0);
    fault("writ 0 a", 0);
    fault("writes 0 a", 0);
    fault("rewin 0 1", 0);
    fault("rewound 0 1", 0);
    fault("cu 0 1", 0);
    fault("cuts 0 1", 0);
    fault("splic 0 1", 0);
    fault("spliced 0 1", 0);
    fault("clos 0", 0);
    fault("closed 0", 0);
    fault("punc 0 0", 0);
    fault("punched 0 0", 0);
    fault("xrite 0 a", 0);
    fault("writx 0 a", 0);
    fault("undo", 0);
    fault(Due.times("z", 50), 0);
    fault("write", 5);
    fault("rewind", 6);
    fault("cut", 3);
    fault("splice", 6);
    fault("close", 5);
    fault("punch", 5);
    fault("write0 a", 5);
    fault("cutA", 3);
    fault("cut-1", 3);
    fault("cut1", 3);
    fault("cut1x", 3);
    fault("cut1 1", 3);
    fault("write0a", 5);
    fault("close1", 5);
    fault("close\t0", 5);
  }

  private static void numbers() {
    fault("cut ", 4);
    fault("cut  1 1", 4);
    fault("cut a 1", 4);
    fault("cut -1 1", 4);
    fault("cut 1", 5);
    fault("cut 1a", 5);
    fault("cut 01 1", 5);
    fault("cut 00 1", 5);
    fault("cut 12", 6);
    fault("cut 123 1", 6);
    fault("cut 1 ", 6);
    fault("cut 1  1", 6);
    fault("cut 1 x", 6);
    fault("cut 1 01", 7);
    fault("cut 1 1 ", 7);
    fault("cut 1 1 1", 7);
    fault("cut 1 1a", 7);
    fault("cut 1 123", 8);
    fault("cut 1 12 ", 8);
    fault("close 05", 7);
    fault("close 5 ", 7);
    fault("close 5 1", 7);
    fault("close 123", 8);
    fault("close /", 6);
    fault("close :", 6);
    fault("close 1:", 7);
    fault("close 1/", 7);
    fault("rewind 0 ", 9);
    fault("rewind 00 1", 8);
    fault("splice 0", 8);
    fault("punch 0 0 ", 9);
  }

  private static void letters() {
    fault("write 0", 7);
    fault("write 0 ", 8);
    fault("write 0  a", 8);
    fault("write 0 i", 8);
    fault("write 0 A", 8);
    fault("write 0 `", 8);
    fault("write 0 1", 8);
    fault("write 0 abi", 10);
    fault("write 0 ab ", 10);
    fault("write 0 ab c", 10);
    fault("write 10 ", 9);
    fault("write 10 z", 9);
    fault("write a b", 6);
    fault("write 0 " + Due.times("a", 41) + "i", 49);
  }

  private static void theOtherCommands() {
    StretchSpool x = Due.with("abcd");
    Due.is("rewind", Due.perform(x, "rewind 0 9"), 1);
    Due.is("is done once", x.gap(0, 0, 0), 5162);
    Due.is("its pull is out of range", Due.perform(x, "rewind 0 10"), StretchSpool.BAD_VALUE);
    Due.is("its spool is unknown", Due.perform(x, "rewind 6 10"), StretchSpool.UNKNOWN);
    Due.is("its spool is empty", Due.perform(x, "rewind 5 9"), StretchSpool.NOT_POSSIBLE);
    Due.is("cut", Due.perform(x, "cut 0 3"), 1);
    Due.is("cut ahead of the letter 3", x.spool(0, 0), 3);
    Due.is("a letter that is not there", Due.perform(x, "cut 0 12"), StretchSpool.UNKNOWN);
    Due.is("splice", Due.perform(x, "splice 1 0"), 4);
    Due.is("the first one is the first", x.gap(1, 1, 2), 'd');
    Due.is("splice with itself", Due.perform(x, "splice 1 1"), StretchSpool.BAD_VALUE);
    Due.is("splice with no spool", Due.perform(x, "splice 1 99"), StretchSpool.UNKNOWN);
    Due.is("splice with an empty one", Due.perform(x, "splice 1 0"), StretchSpool.NOT_POSSIBLE);
    Due.is("close", Due.perform(x, "close 1"), 4);
    Due.is("it is closed", x.spool(1, 1), 1);
    Due.is("close again", Due.perform(x, "close 1"), StretchSpool.NONE);
    Due.is("close an empty one", Due.perform(x, "close 0"), StretchSpool.NOT_POSSIBLE);
    Due.is("close with no spool", Due.perform(x, "close 10"), StretchSpool.UNKNOWN);
    Due.is("punch", Due.perform(x, "punch 1 2"), 0);
    Due.is("its way", x.event(0, 2), 2);
    Due.is("punch by no way", Due.perform(x, "punch 1 3"), StretchSpool.BAD_VALUE);
    Due.is("punch an empty one", Due.perform(x, "punch 0 0"), StretchSpool.NOT_POSSIBLE);
    Due.is("the text stays", x.count(10), 9);
    Due.text(x, "cut 1 10");
    Due.is("two digits", x.perform(), StretchSpool.UNKNOWN);
    x.clearText();
    StretchSpool y = Due.with("aaaaaaaaaaaaaaaaaaaa");
    Due.is("two digits of a letter", Due.perform(y, "cut 0 13"), 1);
    Due.is("are told apart", y.spool(0, 0), 13);
  }

  private static void write() {
    StretchSpool x = new StretchSpool();
    Due.is("write", Due.perform(x, "write 5 abcdefgh"), 8);
    for (int letter = 0; letter < 8; letter++) {
      Due.is("length", x.gap(5, letter + 1, 0), 2000 + 1000 * letter);
      Due.is("nominal", x.gap(5, letter + 1, 1), 2000 + 1000 * letter);
      Due.is("truth", x.gap(5, letter + 1, 2), 'a' + letter);
    }
    Due.is("the beginning", x.gap(5, 0, 0), 5000);
    Due.is("the end", x.gap(5, 9, 0), 5000);
    Due.is("closed", x.spool(5, 1), 1);
    Due.is("wire used", x.count(3), 10000 + 44000);
    Due.is("kind", x.event(0, 0), 0);
    Due.is("spool", x.event(0, 1), 5);
    Due.is("letters", x.event(0, 2), 8);
    String before = Due.all(x);
    Due.is("no such spool", Due.perform(x, "write 6 a"), StretchSpool.UNKNOWN);
    Due.is("no such spool, and too many", Due.perform(x, "write 99 " + Due.times("a", 31)), StretchSpool.UNKNOWN);
    Due.is("not empty", Due.perform(x, "write 5 a"), StretchSpool.NOT_POSSIBLE);
    Due.is("not empty, and too many", Due.perform(x, "write 5 " + Due.times("a", 31)), StretchSpool.NOT_POSSIBLE);
    Due.is("too many", Due.perform(x, "write 0 " + Due.times("a", 31)), StretchSpool.FULL);
    Due.is("too many", Due.perform(x, "write 0 " + Due.times("h", 42)), StretchSpool.FULL);
    Due.text(x, "write 5 abcdefgh");
    Due.holds("errors change nothing", before.equals(Due.all(x)));
    StretchSpool full = Due.with(Due.times("h", 30));
    Due.is("just enough: the last letter", full.gap(0, 30, 2), 'h');
    Due.is("the end", full.gap(0, 31, 2), StretchSpool.NONE);
  }

  private static void records() {
    StretchSpool x = Due.with("abcd");
    Due.is("write is recorded once", x.count(9), 1);
    Due.perform(x, "rewind 0 9");
    Due.is("rewind is recorded once", x.count(9), 2);
    Due.perform(x, "cut 0 2");
    Due.is("cut is recorded once", x.count(9), 3);
    x.undo();
    x.undo();
    Due.is("and taken back", x.spool(0, 4), 0);
    Due.perform(x, "punch 0 0");
    Due.is("punch is recorded once", x.count(9), 2);
    Due.perform(x, "close 0");
    Due.perform(x, "close 9");
    Due.perform(x, "close x");
    Due.is("NONE, an error and a fault are not", x.count(9), 2);
    x.undo();
    x.undo();
    Due.is("write is taken back", x.spool(0, 0), StretchSpool.NOT_POSSIBLE);
    Due.is("with the wire used", x.count(3), 0);
    Due.is("and its event", x.event(0, 0), StretchSpool.NONE);
  }
}
