/** The edges of what the document says under TEXTS. */
public final class EdgeTextsTest {
  private static final String HEADING = "TEXTS";

  public static void main(String[] args) {
    emptyAtFirst();
    fiftyCharacters();
    oneBlank();
    theSixCommands();
    oneOrMoreLetters();
    oneOrTwoDigits();
    noZeroInFront();
    whereTheWordEnds();
    noneOfThese();
    theFirstThatIsNotAllowed();
    endsTooEarly();
    Due.end();
  }

  private static void fault(String text, int fault) {
    StretchSpool x = new StretchSpool();
    Due.is("perform of \"" + text + "\"", Due.perform(x, text), -100 - fault);
    Due.is("it is no act", x.count(9), 0);
  }

  private static void emptyAtFirst() {
    Due.sentence(HEADING, "There is a text of at most 50 characters, empty at first.");
    StretchSpool x = new StretchSpool();
    Due.is("its length", x.count(10), 0);
    Due.is("its fault", x.perform(), -100);
    Due.is("the length that it had", x.clearText(), 0);
    Due.is("the first character", x.type('c'), 1);
  }

  private static void fiftyCharacters() {
    Due.sentence(HEADING, "There is a text of at most 50 characters, empty at first.");
    StretchSpool x = new StretchSpool();
    Due.text(x, "write 0 " + Due.times("a", 41));
    Due.is("49", x.count(10), 49);
    Due.is("50", x.type('b'), 50);
    Due.is("no more", x.type('c'), StretchSpool.FULL);
    Due.is("nor another one", x.type((char) 0), StretchSpool.FULL);
    Due.is("the length stays", x.count(10), 50);
    Due.is("the text stays: no letter is wrong", x.perform(), StretchSpool.FULL);
    Due.is("it had 50", x.clearText(), 50);
    Due.is("then there is room", x.type('z'), 1);
    fault("write 0 " + Due.times("a", 41) + "i", 49);
    fault("write 0 " + Due.times("a", 41) + " ", 49);
    Due.is("what is not typed is no fault",
        Due.perform(new StretchSpool(), "write 0 " + Due.times("a", 42) + "i"), StretchSpool.FULL);
    Whole full = new Whole(Made::full);
    full.refuses("type of a z", y -> y.type('z'), StretchSpool.FULL);
    full.refuses("type of an a", y -> y.type('a'), StretchSpool.FULL);
  }

  private static void oneBlank() {
    Due.sentence(HEADING, "A command is a word and what follows it, each behind one blank:");
    Due.is("one", Due.perform(new StretchSpool(), "write 0 a"), 1);
    fault("write0 a", 5);
    fault("write  0 a", 6);
    fault("write 0a", 7);
    fault("write 0  a", 8);
    fault("write 0 a ", 9);
    fault(" write 0 a", 0);
    fault("write\t0 a", 5);
    fault("write 0\na", 7);
    fault("write" + (char) 160 + "0 a", 5);
    fault("rewind  0 1", 7);
    fault("rewind 0  1", 9);
    fault("cut  0 1", 4);
    fault("cut 0  1", 6);
    fault("splice  0 1", 7);
    fault("splice 0  1", 9);
    fault("close  0", 6);
    fault("close 0 ", 7);
    fault("punch  0 1", 6);
    fault("punch 0  1", 8);
  }

  private static void theSixCommands() {
    Due.sentence(HEADING, "\"write\", a spool and one or more letters (a to h); \"rewind\", a spool and a pull; \"cut\", a spool"
        + " and a letter; \"splice\", a spool and another spool; \"close\" and a spool; \"punch\", a spool and a way of"
        + " reading.");
    StretchSpool x = new StretchSpool();
    Due.is("write", Due.perform(x, "write 0 abcdefgh"), 8);
    Due.is("rewind", Due.perform(x, "rewind 0 9"), 1);
    Due.is("its event", x.event(0, 0), 1);
    Due.is("cut", Due.perform(x, "cut 0 7"), 1);
    Due.is("close", Due.perform(x, "close 0"), 7);
    Due.is("splice", Due.perform(x, "splice 1 0"), 8);
    Due.is("the first one is the first", x.gap(1, 1, 2), 'h');
    Due.is("punch", Due.perform(x, "punch 1 2"), 0);
    Due.is("its way", x.event(0, 2), 2);
    String[] two = {"rewind", "cut", "splice", "punch"};
    for (String word : two) {
      int length = word.length();
      fault(word + " 0", length + 2);
      fault(word + " 0 1 1", length + 4);
      fault(word + " 0 a", length + 3);
      fault(word + " a 0", length + 1);
      Due.is(word + " of no wire", Due.perform(new StretchSpool(), word + " 9 9"), StretchSpool.UNKNOWN);
    }
    fault("close 0 1", 7);
    fault("close a", 6);
    fault("write 0 1", 8);
    fault("write a 1", 6);
    fault("write 0 a b", 9);
  }

  private static void oneOrMoreLetters() {
    Due.sentence(HEADING, "one or more letters (a to h);");
    fault("write 0 ", 8);
    Due.is("one", Due.perform(new StretchSpool(), "write 0 h"), 1);
    Due.is("two", Due.perform(new StretchSpool(), "write 0 ha"), 2);
    Due.is("thirty", Due.perform(new StretchSpool(), "write 0 " + Due.times("h", 30)), 30);
    fault("write 0 i", 8);
    fault("write 0 `", 8);
    fault("write 0 A", 8);
    fault("write 0 hi", 9);
    fault("write 0 a`", 9);
    fault("write 10 i", 9);
    fault("write 0 " + Due.times("h", 30) + "i", 38);
    fault("write 0 " + Due.times("h", 31) + "i", 39);
  }

  private static void oneOrTwoDigits() {
    Due.sentence(HEADING, "A number has one or two digits,");
    Due.is("one", Due.perform(new StretchSpool(), "close 9"), StretchSpool.UNKNOWN);
    Due.is("two", Due.perform(new StretchSpool(), "close 10"), StretchSpool.UNKNOWN);
    Due.is("the greatest", Due.perform(new StretchSpool(), "close 99"), StretchSpool.UNKNOWN);
    fault("close 100", 8);
    fault("close 999", 8);
    fault("close ", 6);
    fault("close a", 6);
    fault("close -", 6);
    fault("close -1", 6);
    fault("close +1", 6);
    fault("close /", 6);
    fault("close :", 6);
    fault("close 1/", 7);
    fault("close 1:", 7);
    fault("close 1a", 7);
    fault("close " + (char) 0x0661, 6);
    fault("close 1" + (char) 0x0661, 7);
    fault("rewind 0 100", 11);
    fault("rewind 100 1", 9);
    StretchSpool x = Due.with(Due.times("a", 30));
    Due.is("a letter by two", Due.perform(x, "cut 0 29"), 1);
    Due.is("is that letter", x.spool(0, 0), 29);
    Due.is("another one", Due.perform(x, "cut 0 10"), 2);
    Due.is("is that letter", x.spool(0, 0), 10);
    Due.is("by one", Due.perform(x, "cut 0 9"), 3);
    Due.is("no letter 9 then", Due.perform(x, "cut 0 9"), StretchSpool.UNKNOWN);
    Due.is("a pull of two digits", Due.perform(x, "rewind 0 10"), StretchSpool.BAD_VALUE);
    Due.is("a way of two digits", Due.perform(x, "punch 0 10"), StretchSpool.BAD_VALUE);
  }

  private static void noZeroInFront() {
    Due.sentence(HEADING, "without a zero in front unless it is the single digit 0.");
    Due.is("the single digit", Due.perform(new StretchSpool(), "write 0 a"), 1);
    fault("write 00 a", 7);
    fault("write 01 a", 7);
    fault("write 05 a", 7);
    fault("write 0", 7);
    fault("close 00", 7);
    fault("close 09", 7);
    fault("rewind 0 00", 10);
    fault("rewind 0 09", 10);
    fault("cut 0 01", 7);
    fault("cut 01 0", 5);
    fault("splice 0 01", 10);
    fault("punch 0 01", 9);
    StretchSpool x = Due.with("ab");
    Due.is("a pull 0", Due.perform(x, "rewind 0 0"), 1);
    Due.is("a zero behind", Due.perform(x, "cut 0 10"), StretchSpool.UNKNOWN);
    Due.is("a letter 0", Due.perform(x, "cut 0 0"), 1);
  }

  private static void whereTheWordEnds() {
    Due.sentence(HEADING, "The word goes up to the first character that is no small letter.");
    fault("close", 5);
    fault("close{", 5);
    fault("close`", 5);
    fault("closeA", 5);
    fault("closeZ", 5);
    fault("close0", 5);
    fault("closea", 0);
    fault("closez", 0);
    fault("closea 0", 0);
    fault("close" + (char) 233, 5);
    fault("close" + (char) ('z' + 256), 5);
    fault("close" + (char) 0xffff, 5);
    fault("close" + (char) 0, 5);
    fault("cLose 0", 0);
    fault("clos e 0", 0);
    fault(Due.times("z", 50), 0);
    fault("write" + Due.times("e", 45), 0);
  }

  private static void noneOfThese() {
    Due.sentence(HEADING, "If it is none of these, the fault of the text is 0;");
    fault("", 0);
    fault(" ", 0);
    fault("0", 0);
    fault("Close 0", 0);
    fault("clos 0", 0);
    fault("lose 0", 0);
    fault("xlose 0", 0);
    fault("xrite 0 a", 0);
    fault("xewind 0 1", 0);
    fault("xut 0 1", 0);
    fault("xplice 0 1", 0);
    fault("xunch 0 1", 0);
    fault("closes 0", 0);
    fault("clode 0", 0);
    fault("writ 0 a", 0);
    fault("writer 0 a", 0);
    fault("rewin 0 1", 0);
    fault("rewinds 0 1", 0);
    fault("cu 0 1", 0);
    fault("cute 0 1", 0);
    fault("cot 0 1", 0);
    fault("splic 0 1", 0);
    fault("splices 0 1", 0);
    fault("punc 0 1", 0);
    fault("punchs 0 1", 0);
    fault("undo", 0);
    fault("keep", 0);
    fault("restore", 0);
    fault("type a", 0);
    fault("setrule 1", 0);
    fault("read 0 0 0", 0);
    fault("w", 0);
    fault("c", 0);
  }

  private static void theFirstThatIsNotAllowed() {
    Due.sentence(HEADING, "otherwise it is the index, from 0, of the first character behind the word that is not allowed at its"
        + " place,");
    fault("write?0?i", 5);
    fault("write ?i?", 6);
    fault("write 0?i", 7);
    fault("write 0 i", 8);
    fault("write 0 a?", 9);
    fault("write 10?i", 8);
    fault("write 10 i", 9);
    fault("write 10 ab?c", 11);
    fault("write 6 i", 8);
    fault("rewind 00 1", 8);
    fault("rewind 6 99?", 11);
    fault("rewind 6 9?", 10);
    fault("cut 6?9", 5);
    fault("splice 0 0?", 10);
    fault("close 6?", 7);
    fault("punch 0 9 ", 9);
    Whole two = new Whole(() -> {
      StretchSpool x = Due.with("ab");
      Due.text(x, "cut 0 1?");
      return x;
    });
    two.refuses("a fault behind what could be done", StretchSpool::perform, -107);
  }

  private static void endsTooEarly() {
    Due.sentence(HEADING, "or the length of the text if it ends too early.");
    String[] whole = {"write 10 a", "rewind 10 1", "cut 10 1", "splice 10 1", "close 1", "punch 10 1"};
    for (String command : whole) {
      int word = command.indexOf(' ');
      for (int length = 0; length < command.length(); length++) {
        fault(command.substring(0, length), length < word ? 0 : length);
      }
      Due.is(command + " ends late enough", Due.perform(Made.empty(), command) > -100 ? 1 : 0, 1);
    }
  }
}
