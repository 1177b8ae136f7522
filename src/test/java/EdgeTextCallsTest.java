/** The edges of the promises 9 to 11: type, clearText and perform. */
public final class EdgeTextCallsTest {
  public static void main(String[] args) {
    type();
    anyCharacter();
    noMoreThanFifty();
    clearText();
    theTextStays();
    performIsAnAct();
    faults();
    write();
    rewindOnce();
    theOthers();
    Due.end();
  }

  private static void type() {
    Due.sentence("Promise 9", "Types a character behind the text.");
    Due.sentence("Promise 9", "Returns the length of the text then; FULL if it has 50 characters.");
    StretchSpool x = new StretchSpool();
    String text = "write 2 gfe";
    for (int place = 0; place < text.length(); place++) {
      Due.is("length", x.type(text.charAt(place)), place + 1);
      Due.is("as it is told", x.count(10), place + 1);
    }
    Due.is("in their order", x.perform(), 3);
    Due.is("the first letter", x.gap(2, 1, 2), 'g');
    Due.is("the last letter", x.gap(2, 3, 2), 'e');
    Due.is("behind it", x.type('d'), 12);
    Due.is("it is no act", x.count(9), 1);
    Due.is("it is no event", x.event(1, 0), StretchSpool.NONE);
  }

  private static void anyCharacter() {
    Due.sentence("Promise 9", "- `character`: any character");
    StretchSpool x = new StretchSpool();
    char[] any = {
      0, 1, '\n', ' ', '"', '\\', 127, 128, 255, 256, 0x3b1, 0x2028, 0xd800, 0xdc00, 0xfeff, 0xfffe, 0xffff
    };
    for (int place = 0; place < any.length; place++) {
      Due.is("the character " + (int) any[place], x.type(any[place]), place + 1);
    }
    Due.is("what such a text is", x.perform(), -100);
    Due.is("and had", x.clearText(), any.length);
    for (char one : any) {
      StretchSpool y = new StretchSpool();
      if (one != ' ') {
        Due.is("behind a word", Due.perform(y, "close" + one), -105);
      }
      Due.is("in place of a letter", Due.perform(y, "write 0 " + one), -108);
      Due.is("behind a letter", Due.perform(y, "write 0 a" + one), -109);
      Due.is("in place of a digit", Due.perform(y, "close " + one), -106);
      Due.is("behind a digit", Due.perform(y, "close 1" + one), -107);
    }
  }

  private static void noMoreThanFifty() {
    Due.sentence("Promise 9", "Returns the length of the text then; FULL if it has 50 characters.");
    StretchSpool x = new StretchSpool();
    for (int length = 1; length <= 50; length++) {
      Due.is("length", x.type('x'), length);
    }
    for (int more = 0; more < 3; more++) {
      Due.is("full", x.type('x'), StretchSpool.FULL);
      Due.is("50", x.count(10), 50);
    }
    Due.is("emptied", x.clearText(), 50);
    Due.is("the first one", x.type('x'), 1);
    Whole full = new Whole(Made::full);
    full.refuses("a full one", y -> y.type((char) 0), StretchSpool.FULL);
    full.refuses("a full one", y -> y.type((char) 0xffff), StretchSpool.FULL);
  }

  private static void clearText() {
    Due.sentence("Promise 10", "Empties the text.");
    Due.sentence("Promise 10", "Returns the length that it had.");
    StretchSpool x = new StretchSpool();
    Due.is("empty", x.clearText(), 0);
    x.type('a');
    Due.is("one", x.clearText(), 1);
    Due.is("none then", x.count(10), 0);
    Due.is("empty again", x.clearText(), 0);
    Due.text(x, Due.times("b", 49));
    Due.is("49", x.clearText(), 49);
    Due.text(x, Due.times("b", 50));
    Due.is("50", x.clearText(), 50);
    Due.is("no command is left", x.perform(), -100);
    Due.text(x, "close");
    Due.is("nothing behind it is left", x.perform(), -105);
    Due.is("it is no act", x.count(9), 0);
    StretchSpool full = Made.full();
    Due.is("of a full object", full.clearText(), 50);
    Due.is("the states stay", full.count(9), 4);
  }

  private static void theTextStays() {
    Due.sentence("Promise 11", "Does what the command in the text tells; the text stays.");
    StretchSpool x = Due.with("abcd");
    Due.text(x, "rewind 0 2");
    for (int times = 1; times <= 5; times++) {
      Due.is("done", x.perform(), 1);
      Due.is("rewinds", x.count(4), times);
      Due.is("the text", x.count(10), 10);
    }
    Due.text(x, "cut 0 1");
    Due.is("done", x.perform(), 1);
    Due.is("an error then", x.perform(), StretchSpool.UNKNOWN);
    Due.is("the text", x.count(10), 7);
    Due.text(x, "cut 0 1 ");
    Due.is("a fault", x.perform(), -107);
    Due.is("the same fault", x.perform(), -107);
    Due.is("the text", x.count(10), 8);
  }

  private static void performIsAnAct() {
    Due.sentence("Promise 11", "This is an act.");
    StretchSpool x = new StretchSpool();
    String[] commands = {"write 0 abc", "rewind 0 9", "cut 0 1", "close 0"};
    for (int act = 0; act < commands.length; act++) {
      Due.perform(x, commands[act]);
      Due.is(commands[act] + " is recorded once", x.count(9), act + 1);
    }
    Due.perform(x, "close 0");
    Due.perform(x, "close 5");
    Due.perform(x, "close 9");
    Due.perform(x, "close ");
    Due.is("NONE, errors and faults are not: undone", x.undo(), 3);
    Due.is("open", x.spool(0, 1), 0);
    Due.is("undone", x.undo(), 2);
    Due.is("whole", x.spool(0, 0), 3);
    Due.perform(x, "punch 0 0");
    Due.is("punch is recorded once", x.count(9), 3);
    Due.perform(x, "write 1 a");
    Due.is("recorded once", x.count(9), 4);
    Due.perform(x, "splice 0 1");
    Due.is("undone", x.undo(), 3);
    Due.is("two wires", x.count(0), 2);
  }

  private static void faults() {
    Due.sentence("Promise 11", "Returns -100 minus the fault of the text if it has one (which is an error);");
    Due.is("the least", new StretchSpool().perform(), -100);
    Due.is("the greatest", Due.perform(new StretchSpool(), "write 0 " + Due.times("a", 41) + "?"), -149);
    Due.is("the length of the text", Due.perform(new StretchSpool(), "rewind 10 "), -110);
    String[] faulty = {"", "write", "write 0", "write 0 i", "rewind 0", "cut 0 1 ", "close 00", "punch 0 x", "nothing"};
    for (String text : faulty) {
      Whole whole = new Whole(() -> {
        StretchSpool x = Made.mixed();
        Due.text(x, text);
        return x;
      });
      Due.holds("\"" + text + "\" has a fault", Due.perform(Made.mixed(), text) <= -100);
      whole.refuses("\"" + text + "\"", StretchSpool::perform, Due.perform(new StretchSpool(), text));
    }
  }

  private static void write() {
    Due.sentence("Promise 11", "otherwise, for \"write\": how many letters the wire has, UNKNOWN if there is no such spool,"
        + " NOT_POSSIBLE if it is not empty, FULL if there are more than 30 letters;");
    for (int letters = 1; letters <= 30; letters++) {
      Due.is("letters", Due.perform(new StretchSpool(), "write 0 " + Due.times("e", letters)), letters);
    }
    for (int letters = 31; letters <= 42; letters++) {
      Due.is("letters", Due.perform(new StretchSpool(), "write 0 " + Due.times("e", letters)), StretchSpool.FULL);
    }
    Due.is("the last spool", Due.perform(new StretchSpool(), "write 5 e"), 1);
    for (int spool : new int[] {6, 7, 9, 10, 50, 99}) {
      Due.is("no such spool", Due.perform(new StretchSpool(), "write " + spool + " e"), StretchSpool.UNKNOWN);
    }
    StretchSpool x = Due.with("a");
    Due.is("not empty", Due.perform(x, "write 0 e"), StretchSpool.NOT_POSSIBLE);
    x.cut(0, 0);
    Due.is("a wire without letters is not empty", Due.perform(x, "write 0 e"), StretchSpool.NOT_POSSIBLE);
    x.splice(1, 0);
    Due.is("empty by splicing", Due.perform(x, "write 0 e"), 1);
    x.undo();
    Due.is("empty by undo", Due.perform(x, "write 0 " + Due.times("e", 30)), 30);
    String[] refused = {"write 6 a", "write 0 a", "write 5 " + Due.times("a", 31)};
    int[] due = {StretchSpool.UNKNOWN, StretchSpool.NOT_POSSIBLE, StretchSpool.FULL};
    for (int place = 0; place < refused.length; place++) {
      String text = refused[place];
      Whole whole = new Whole(() -> {
        StretchSpool y = Made.mixed();
        Due.text(y, text);
        return y;
      });
      whole.refuses(text, StretchSpool::perform, due[place]);
    }
  }

  private static void rewindOnce() {
    Due.sentence("Promise 11", "for \"rewind\": what rewind() returns with 1 for times;");
    StretchSpool x = Due.with("a");
    for (int pull = 0; pull <= 9; pull++) {
      Due.is("once", Due.perform(x, "rewind 0 " + pull), 1);
      Due.is("rewinds", x.count(4), pull + 1);
    }
    Due.is("the pull 10", Due.perform(x, "rewind 0 10"), StretchSpool.BAD_VALUE);
    Due.is("the spool 6", Due.perform(x, "rewind 6 9"), StretchSpool.UNKNOWN);
    Due.is("an empty one", Due.perform(x, "rewind 5 9"), StretchSpool.NOT_POSSIBLE);
    x.setLimit(101);
    Due.is("the time by which it breaks", Due.perform(x, "rewind 0 9"), 1);
    Due.is("a break", x.event(0, 0), 2);
  }

  private static void theOthers() {
    Due.sentence("Promise 11", "for the others what cut(), splice(), close() or punch() returns.");
    String[] commands = {
      "cut 0 0", "cut 0 7", "cut 0 8", "cut 1 0", "cut 5 0", "cut 6 0", "cut 0 99", "splice 0 1", "splice 1 0", "splice 0 0",
      "splice 0 5", "splice 6 0", "splice 0 10", "close 0", "close 1", "close 2", "close 5", "close 6", "close 99", "punch 0 0",
      "punch 0 2", "punch 0 3", "punch 2 2", "punch 5 0", "punch 6 0", "punch 4 1"
    };
    int[] due = {
      5, 5, -1, -1, -1, -1, -1, 8, 8, -2, -4, -1, -1, -5, 0, 2, -4, -1, -1, 0, 0, -2, -4, -4, -1, 0
    };
    for (int place = 0; place < commands.length; place++) {
      Due.is(commands[place], Due.perform(Made.mixed(), commands[place]), due[place]);
    }
    Due.is("cut without room", Due.perform(Made.full(), "cut 0 0"), StretchSpool.FULL);
    Due.is("splice without room", Due.perform(Made.full(), "splice 0 1"), StretchSpool.FULL);
    Due.is("punch with two others", Due.perform(Made.withBeginning("9999999939996", 7222, "bh"), "punch 0 0"), 2);
  }
}
