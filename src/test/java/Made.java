/** Objects that tests begin with. They take few calls, as an object is used for at most 512. */
final class Made {
  private Made() {
  }

  static StretchSpool empty() {
    return new StretchSpool();
  }

  /**
   * The spool 0 has a closed wire of 8 letters, 1 an open one of none, 2 an open one of two letters, 3 a
   * closed one of none, 4 a closed one of one letter; 5 is empty. 3 states are in the history; the limit
   * is another one than in the snapshot; the text is a command that can be performed.
   */
  static StretchSpool mixed() {
    StretchSpool x = Due.with("abcdefgh");
    x.rewind(0, 9, 2);
    Due.perform(x, "write 1 abc");
    x.cut(1, 0);
    x.cut(2, 2);
    x.cut(3, 0);
    x.close(3);
    x.keep();
    x.undo();
    x.undo();
    x.undo();
    x.restore();
    x.setLimit(140);
    Due.text(x, "close 2");
    return x;
  }

  /** Six closed wires of 30 letters; the text, the history and the log are full, there is a snapshot. */
  static StretchSpool full() {
    StretchSpool x = new StretchSpool();
    for (int spool = 0; spool < 6; spool++) {
      Due.perform(x, "write " + spool + " abcdefghabcdefghabcdefgh" + Due.times("" + (char) ('c' + spool), 6));
    }
    x.rewind(0, 9, 2);
    x.rewind(1, 8, 2);
    x.keep();
    x.setRule(1);
    x.rewind(2, 7, 2);
    Due.text(x, "write 5 " + Due.times("a", 42));
    return x;
  }

  /** Rewinds once by each digit; none of these is to break the wire. */
  static void pull(StretchSpool x, int spool, String pulls) {
    int from = 0;
    while (from < pulls.length()) {
      int to = from;
      while (to < pulls.length() && pulls.charAt(to) == pulls.charAt(from)) {
        to++;
      }
      int gaps = gaps(x, spool);
      Due.is("rewound by " + pulls, x.rewind(spool, pulls.charAt(from) - '0', to - from), to - from);
      Due.is("whole by " + pulls, gaps(x, spool), gaps);
      from = to;
    }
  }

  /** How many gaps a wire has, by its letters and whether it is closed. */
  static int gaps(StretchSpool x, int spool) {
    return x.spool(spool, 0) < 0 ? 0 : x.spool(spool, 0) + 1 + x.spool(spool, 1);
  }

  /** Writes wires of fresh letters whose gap at the beginning was stretched: on the spool 0. */
  static StretchSpool withBeginning(String pulls, int length, String letters) {
    StretchSpool x = Due.with("a");
    x.setLimit(200);
    pull(x, 0, pulls);
    x.cut(0, 0);
    Due.perform(x, "write 2 " + letters);
    x.splice(0, 2);
    Due.is("the beginning", x.gap(0, 0, 0), length);
    Due.is("letters", x.spool(0, 0), letters.length());
    return x;
  }

  /** The same with the gap at the end: fresh letters behind a fresh beginning, on the spool 0. */
  static StretchSpool withEnd(String pulls, int length, String letters) {
    StretchSpool x = Due.with("a");
    x.setLimit(200);
    x.cut(0, 0);
    x.close(0);
    pull(x, 0, pulls);
    Due.perform(x, "write 2 " + letters);
    x.splice(2, 0);
    Due.is("the end", x.gap(2, letters.length() + 1, 0), length);
    Due.is("its letters", x.spool(2, 0), letters.length());
    return x;
  }

  /** One letter that was stretched behind a fresh beginning, on the spool 1. */
  static StretchSpool withLetter(String pulls, int length, String letter) {
    StretchSpool x = Due.with(letter);
    x.setLimit(200);
    pull(x, 0, pulls);
    x.cut(0, 0);
    Due.is("the letter", x.gap(1, 1, 0), length);
    return x;
  }
}
