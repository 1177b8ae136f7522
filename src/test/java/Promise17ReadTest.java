/** Promise 17: read. */
public final class Promise17ReadTest {
  public static void main(String[] args) {
    everyLetter();
    byTheBeginning();
    byWhatIsRead();
    byBothEnds();
    wrongValues();
    Due.end();
  }

  private static void everyLetter() {
    StretchSpool x = Due.with("abcdefgh");
    for (int way = 0; way <= 2; way++) {
      for (int letter = 0; letter < 8; letter++) {
        Due.is("by the way " + way, x.read(0, way, letter), 'a' + letter);
      }
    }
  }

  /** The gap 30 stretches by 432, that at the beginning by 162, each time. */
  private static void byTheBeginning() {
    StretchSpool x = Due.with(Due.times("a", 29) + "h");
    x.setRule(1);
    x.rewind(0, 9, 2);
    Due.is("9793 over 5163", x.read(0, 0, 29), 'h');
    x.rewind(0, 9, 1);
    Due.is("10216 over 5246", x.read(0, 0, 29), '?');
    StretchSpool y = Due.with(Due.times("a", 29) + "g");
    y.setRule(1);
    y.rewind(0, 9, 2);
    Due.is("8705 over 5163", y.read(0, 0, 29), 'g');
    y.rewind(0, 9, 1);
    Due.is("9081 over 5246", y.read(0, 0, 29), 'h');
    StretchSpool z = Due.with("a");
    z.setLimit(200);
    z.rewind(0, 9, 21);
    z.cut(0, 0);
    Due.is("an a of 3891 over 5000", z.gap(1, 1, 0), 3891);
    Due.is("is read as c", z.read(1, 0, 0), 'c');
  }

  /** Each e that is read brings the measure, 5329 at first, nearer to what the letters were punched by. */
  private static void byWhatIsRead() {
    StretchSpool x = stretchedBeginning(2, "eeeh");
    Due.is("an e of 6000 over 5329", x.read(1, 1, 0), 'e');
    Due.is("an h of 9000 over 5138, behind 5246 and 5184", x.read(1, 1, 3), 'h');
    Due.is("by the beginning, over 5329", x.read(1, 0, 3), 'g');

    StretchSpool y = stretchedBeginning(4, "hh");
    Due.is("an h of 9000 over 5679", y.read(1, 1, 0), 'g');
    Due.is("what was read counts, not the truth: over 5665", y.read(1, 1, 1), 'g');

    StretchSpool z = Due.with("h");
    z.rewind(0, 9, 2);
    z.cut(0, 0);
    Due.perform(z, "write 2 eg");
    z.splice(1, 2);
    Due.is("an h of 9592 over 5000", z.read(1, 1, 0), '?');
    Due.is("it leaves the measure as it was", z.read(1, 1, 1), 'e');
    Due.is("and so on", z.read(1, 1, 2), 'g');
  }

  /** The spool 1 has a gap that was rewound so often at its beginning, and new letters. */
  private static StretchSpool stretchedBeginning(int times, String letters) {
    StretchSpool x = Due.with(letters);
    Due.perform(x, "write 1 a");
    x.rewind(1, 9, times);
    x.cut(1, 0);
    x.splice(1, 0);
    return x;
  }

  /** The beginning is new (5000), the end was stretched, so that the measure grows on the way. */
  private static void byBothEnds() {
    StretchSpool x = Due.with("hhh");
    x.setLimit(200);
    x.rewind(0, 9, 7);
    x.cut(0, 0);
    Due.is("the beginning", x.gap(1, 0, 0), 5000);
    Due.is("the end", x.gap(1, 4, 0), 6247);
    Due.is("a letter", x.gap(1, 1, 0), 11246);
    Due.is("11246 over 5311", x.read(1, 2, 0), '?');
    Due.is("11246 over 5623", x.read(1, 2, 1), '?');
    Due.is("11246 over 5935", x.read(1, 2, 2), 'h');
    Due.is("by the beginning", x.read(1, 0, 2), '?');

    StretchSpool y = Due.with("hhhh");
    y.rewind(0, 9, 3);
    y.cut(0, 0);
    Due.is("9902 over 5100", y.read(1, 2, 0), '?');
    Due.is("9902 over 5200", y.read(1, 2, 1), '?');
    Due.is("9902 over 5300", y.read(1, 2, 2), 'h');
    Due.is("9902 over 5400", y.read(1, 2, 3), 'h');
  }

  private static void wrongValues() {
    StretchSpool x = Due.with("ab");
    Due.is("read(-1, 0, 0)", x.read(-1, 0, 0), StretchSpool.UNKNOWN);
    Due.is("read(6, 3, 0)", x.read(6, 3, 0), StretchSpool.UNKNOWN);
    Due.is("read(0, 3, 2)", x.read(0, 3, 2), StretchSpool.UNKNOWN);
    Due.is("read(0, 0, -1)", x.read(0, 0, -1), StretchSpool.UNKNOWN);
    Due.is("read(1, 3, 0), empty", x.read(1, 3, 0), StretchSpool.UNKNOWN);
    Due.is("read(0, 3, 1)", x.read(0, 3, 1), StretchSpool.BAD_VALUE);
    Due.is("read(0, -1, 1)", x.read(0, -1, 1), StretchSpool.BAD_VALUE);
    x.cut(0, 1);
    Due.is("read(0, 2, 0), open", x.read(0, 2, 0), StretchSpool.NOT_POSSIBLE);
    Due.is("read(0, 3, 0), open", x.read(0, 3, 0), StretchSpool.BAD_VALUE);
    Due.is("read(0, 2, 1), open", x.read(0, 2, 1), StretchSpool.UNKNOWN);
    Due.is("read(0, 1, 0), open", x.read(0, 1, 0), 'a');
  }
}
