/** The edges of what the document says under CUTTING, SPLICING, PUNCHING ANEW. */
public final class EdgeCuttingTest {
  private static final String HEADING = "CUTTING, SPLICING, PUNCHING ANEW";

  public static void main(String[] args) {
    whatIsCutOff();
    atTheFirstAndTheLastLetter();
    theEndIfThereIsOne();
    theLowestEmptySpool();
    theNewBeginning();
    whatIsLeft();
    spliced();
    inPlaceOfItsOwnEnd();
    theSecondIsEmpty();
    closed();
    readWhole();
    punchedAsRead();
    theEndsThatItHas();
    theWireUsed();
    Due.end();
  }

  private static void wire(StretchSpool x, int spool, boolean closed, int... lengths) {
    for (int gap = 0; gap < lengths.length; gap++) {
      Due.is("gap " + gap + " of " + spool, x.gap(spool, gap, 0), lengths[gap]);
    }
    Due.is("gap behind them of " + spool, x.gap(spool, lengths.length, 0), StretchSpool.UNKNOWN);
    Due.is("closed " + spool, x.spool(spool, 1), closed ? 1 : 0);
    Due.is("letters of " + spool, x.spool(spool, 0), lengths.length - (closed ? 2 : 1));
  }

  private static void whatIsCutOff() {
    Due.sentence(HEADING, "A wire can be cut ahead of a letter: this one, all behind it");
    StretchSpool x = Due.with("abcd");
    Due.is("cut", x.cut(0, 2), 1);
    wire(x, 0, false, 5000, 2000, 3000);
    wire(x, 1, true, 5000, 4000, 5000, 5000);
  }

  private static void atTheFirstAndTheLastLetter() {
    Due.sentence(HEADING, "A wire can be cut ahead of a letter: this one, all behind it");
    StretchSpool x = Due.with("abcd");
    Due.is("the last one", x.cut(0, 3), 1);
    wire(x, 0, false, 5000, 2000, 3000, 4000);
    wire(x, 1, true, 5000, 5000, 5000);
    Due.is("the first one", x.cut(0, 0), 2);
    wire(x, 0, false, 5000);
    wire(x, 2, false, 5000, 2000, 3000, 4000);
    Due.is("the only one", x.cut(1, 0), 3);
    wire(x, 1, false, 5000);
    wire(x, 3, true, 5000, 5000, 5000);
    Whole four = new Whole(() -> Due.with("abcd"));
    for (int letter : new int[] {-1, 4, 5, Integer.MIN_VALUE, Integer.MAX_VALUE}) {
      four.refuses("cut at " + letter, y -> y.cut(0, letter), StretchSpool.UNKNOWN);
    }
    StretchSpool full = Due.with(Due.times("a", 30));
    Due.is("no letter 30", full.cut(0, 30), StretchSpool.UNKNOWN);
    Due.is("the letter 29", full.cut(0, 29), 1);
    Due.is("is one", full.spool(1, 0), 1);
    Due.is("29 are left", full.spool(0, 0), 29);
    StretchSpool whole = Due.with(Due.times("a", 30));
    Due.is("all 30", whole.cut(0, 0), 1);
    Due.is("go", whole.spool(1, 0), 30);
    Due.is("with the end", whole.gap(1, 31, 0), 5000);
  }

  private static void theEndIfThereIsOne() {
    Due.sentence(HEADING, "and the gap at the end (if there is one)");
    StretchSpool x = Due.with("abcd");
    x.rewind(0, 9, 1);
    x.cut(0, 3);
    wire(x, 1, true, 5000, 5162, 5162);
    x.cut(0, 1);
    wire(x, 2, false, 5000, 3097, 4129);
    wire(x, 0, false, 5162, 2064);
    x.close(0);
    x.cut(0, 0);
    wire(x, 3, true, 5000, 2064, 5000);
  }

  private static void theLowestEmptySpool() {
    Due.sentence(HEADING, "go to the lowest empty spool,");
    StretchSpool x = new StretchSpool();
    Due.perform(x, "write 0 aaaaaaa");
    Due.perform(x, "write 2 a");
    Due.perform(x, "write 3 a");
    Due.is("between two", x.cut(0, 6), 1);
    Due.is("behind them", x.cut(0, 5), 4);
    Due.is("the highest", x.cut(0, 4), 5);
    Whole none = new Whole(() -> {
      StretchSpool y = Due.with("aaaaaa");
      for (int letter = 5; letter > 0; letter--) {
        y.cut(0, letter);
      }
      return y;
    });
    none.refuses("none is empty", y -> y.cut(0, 0), StretchSpool.FULL);
    none.refuses("nor for another one", y -> y.cut(5, 0), StretchSpool.FULL);
    x.splice(3, 1);
    Due.is("emptied by splicing", x.cut(0, 3), 1);
    x.splice(5, 2);
    x.splice(5, 4);
    Due.is("the lower of two", x.cut(0, 2), 2);
    StretchSpool y = new StretchSpool();
    Due.perform(y, "write 5 ab");
    Due.is("the lowest of all", y.cut(5, 1), 0);
    Due.is("then the next", y.cut(5, 0), 1);
  }

  private static void theNewBeginning() {
    Due.sentence(HEADING, "where a new gap is punched at the beginning;");
    StretchSpool x = Due.with("ab");
    x.rewind(0, 9, 2);
    int used = x.count(3);
    x.cut(0, 0);
    Due.is("new", x.gap(1, 0, 0), 5000);
    Due.is("its nominal length", x.gap(1, 0, 1), 5000);
    Due.is("wire used", x.count(3), used + 5000);
    Due.is("the old one stays", x.gap(0, 0, 0), 5329);
  }

  private static void whatIsLeft() {
    Due.sentence(HEADING, "what is left is open.");
    StretchSpool x = Due.with("ab");
    x.cut(0, 1);
    wire(x, 0, false, 5000, 2000);
    x.cut(0, 0);
    wire(x, 0, false, 5000);
    Due.is("and can be closed", x.close(0), 0);
  }

  private static void spliced() {
    Due.sentence(HEADING, "A wire can be spliced to another one: the letters of the second wire and its gap at the end (if"
        + " there is one) go behind the letters of the first one,");
    StretchSpool x = Due.with("ab");
    Due.perform(x, "write 1 gh");
    x.rewind(1, 9, 1);
    Due.is("two and two", x.splice(0, 1), 4);
    wire(x, 0, true, 5000, 2000, 3000, 8259, 9291, 5162);
    Due.perform(x, "write 1 cd");
    x.cut(1, 1);
    Due.is("to itself with an open one", x.splice(0, 1), 5);
    wire(x, 0, false, 5000, 2000, 3000, 8259, 9291, 4000);
    x.cut(2, 0);
    Due.is("the letter's wire is closed", x.spool(1, 1), 1);
    Due.is("one behind none", x.splice(2, 1), 1);
    wire(x, 2, true, 5000, 5000, 5000);
    Due.is("behind five", x.splice(0, 2), 6);
    wire(x, 0, true, 5000, 2000, 3000, 8259, 9291, 4000, 5000, 5000);
  }

  private static void inPlaceOfItsOwnEnd() {
    Due.sentence(HEADING, "in place of its own gap at the end;");
    StretchSpool x = Due.with("a");
    x.rewind(0, 9, 1);
    Due.perform(x, "write 1 b");
    x.splice(0, 1);
    wire(x, 0, true, 5162, 2064, 3000, 5000);
    Due.perform(x, "write 1 cd");
    x.cut(1, 1);
    x.splice(2, 1);
    wire(x, 2, false, 5000, 5000, 4000);
    x.cut(2, 0);
    x.close(2);
    x.rewind(2, 9, 2);
    Due.is("none behind two: its end", x.splice(0, 2), 2);
    wire(x, 0, true, 5162, 2064, 3000, 5329);
    Due.perform(x, "write 2 e");
    x.cut(2, 0);
    Due.is("an open one of none: no end", x.splice(0, 2), 2);
    wire(x, 0, false, 5162, 2064, 3000);
    x.splice(3, 0);
    wire(x, 3, false, 5000, 6000, 2064, 3000);
  }

  private static void theSecondIsEmpty() {
    Due.sentence(HEADING, "the second spool is empty then.");
    StretchSpool x = Due.with("ab");
    Due.perform(x, "write 5 c");
    x.splice(0, 5);
    Due.is("the second one", x.spool(5, 0), StretchSpool.NOT_POSSIBLE);
    Due.is("the first one", x.spool(0, 0), 3);
    Due.is("wires", x.count(0), 1);
    Due.is("letters", x.count(1), 3);
    Due.is("it can be written on", Due.perform(x, "write 5 dd"), 2);
    x.splice(5, 0);
    Due.is("the other way round", x.spool(0, 0), StretchSpool.NOT_POSSIBLE);
    Due.is("letters", x.spool(5, 0), 5);
  }

  private static void closed() {
    Due.sentence(HEADING, "An open wire can be closed: a new gap is punched at its end.");
    StretchSpool x = Due.with("ab");
    x.rewind(0, 9, 2);
    x.cut(0, 1);
    Due.is("closed", x.close(0), 1);
    wire(x, 0, true, 5329, 2130, 5000);
    Whole whole = new Whole(() -> Due.with("ab"));
    whole.refuses("one that is not open", y -> y.close(0), StretchSpool.NONE);
    whole.refuses("one that is none", y -> y.close(1), StretchSpool.NOT_POSSIBLE);
    StretchSpool full = Due.with(Due.times("h", 30));
    full.setRule(1);
    full.setLimit(102);
    full.rewind(0, 5, 1);
    Due.is("open with 30 letters", full.spool(0, 0) + 100 * full.spool(0, 1), 30);
    Due.is("closed", full.close(0), 30);
    Due.is("its end", full.gap(0, 31, 0), 5000);
  }

  private static void readWhole() {
    Due.sentence(HEADING, "A wire can be punched anew by a way of reading, if it can be read so whole:");
    Whole two = new Whole(() -> Made.withBeginning("9999999992", 6667, "bba"));
    two.refuses("the last one cannot be read by the way 0", x -> x.punch(0, 0), StretchSpool.NOT_POSSIBLE);
    StretchSpool x = Made.withBeginning("9999999992", 6667, "bba");
    Due.is("by the way 2 it can", x.punch(0, 2), 1);
    wire(x, 0, true, 5000, 2000, 3000, 2000, 5000);
    Whole first = new Whole(() -> Made.withBeginning("9999999992", 6667, "abb"));
    for (int way = 0; way <= 2; way++) {
      int by = way;
      int due = way == 2 ? StretchSpool.NONE : 0;
      Due.is("the first one that cannot", Made.withBeginning("9999999992", 6667, "abb").errors(0, way, 2), due);
      if (way != 2) {
        first.refuses("by the way " + way, y -> y.punch(0, by), StretchSpool.NOT_POSSIBLE);
      }
    }
    Due.is("what is misread can be punched", Made.withBeginning("9999886999", 6666, "bbb").punch(0, 0), 3);
  }

  private static void punchedAsRead() {
    Due.sentence(HEADING, "all its gaps are punched as they are read,");
    StretchSpool x = Made.withBeginning("9999999939996", 7222, "bh");
    Due.is("read as a and e", x.read(0, 0, 0) + 1000 * x.read(0, 0, 1), 'a' + 1000 * 'e');
    Due.is("both as others", x.punch(0, 0), 2);
    wire(x, 0, true, 5000, 2000, 6000, 5000);
    for (int gap = 0; gap < 4; gap++) {
      Due.is("nominal", x.gap(0, gap, 1), x.gap(0, gap, 0));
    }
    StretchSpool y = Made.withBeginning("99", 5329, "eh");
    Due.is("by the way 0 one as another", y.punch(0, 0), 1);
    wire(y, 0, true, 5000, 6000, 8000, 5000);
    StretchSpool z = Made.withBeginning("99", 5329, "eh");
    Due.is("by the way 1 none", z.punch(0, 1), 0);
    wire(z, 0, true, 5000, 6000, 9000, 5000);
    StretchSpool all = Due.with("abcdefgh");
    Due.is("all letters", all.punch(0, 2), 0);
    wire(all, 0, true, 5000, 2000, 3000, 4000, 5000, 6000, 7000, 8000, 9000, 5000);
  }

  private static void theEndsThatItHas() {
    Due.sentence(HEADING, "and the gaps at the ends that it has, too.");
    StretchSpool x = Due.with("ab");
    x.rewind(0, 9, 1);
    Due.is("closed", x.punch(0, 0), 0);
    wire(x, 0, true, 5000, 2000, 3000, 5000);
    x.rewind(0, 9, 1);
    x.cut(0, 1);
    Due.is("open", x.punch(0, 0), 0);
    wire(x, 0, false, 5000, 2000);
    x.rewind(0, 9, 1);
    x.cut(0, 0);
    Due.is("the beginning alone", x.punch(0, 1), 0);
    wire(x, 0, false, 5000);
    x.close(0);
    x.rewind(0, 9, 1);
    Due.is("both alone", x.punch(0, 2), 0);
    wire(x, 0, true, 5000, 5000);
  }

  private static void theWireUsed() {
    Due.sentence(HEADING, "The wire used grows by the nominal lengths of all gaps that are punched, as they are punched.");
    StretchSpool x = new StretchSpool();
    Due.is("none", x.count(3), 0);
    Due.perform(x, "write 0 ah");
    Due.is("written", x.count(3), 21000);
    x.rewind(0, 9, 1);
    Due.is("rewound: none", x.count(3), 21000);
    x.cut(0, 0);
    Due.is("cut: a beginning", x.count(3), 26000);
    x.close(0);
    Due.is("closed: an end", x.count(3), 31000);
    x.punch(0, 0);
    Due.is("punched: both", x.count(3), 41000);
    x.splice(0, 1);
    Due.is("spliced: none", x.count(3), 41000);
    x.punch(0, 0);
    Due.is("punched: all", x.count(3), 62000);
    StretchSpool y = Made.withBeginning("9999999939996", 7222, "bh");
    int used = y.count(3);
    y.punch(0, 0);
    Due.is("as they are punched, not as they were: an a and an e", y.count(3), used + 18000);
    y.cut(0, 0);
    Due.is("what is open: the beginning", y.punch(0, 0), 0);
    Due.is("wire used", y.count(3), used + 18000 + 5000 + 5000);
  }
}
