/**
 * Spools of wire on which letters are punched as gaps between marks; the gaps stretch with each
 * rewind. What each call promises is told in shared/DOC.md, by the promise of the same name.
 */
public final class StretchSpool {
  public static final int UNKNOWN = -1;
  public static final int BAD_VALUE = -2;
  public static final int FULL = -3;
  public static final int NOT_POSSIBLE = -4;
  public static final int NONE = -5;

  private static final int SPOOLS = 6;
  private static final int MOST_LETTERS = 30;
  private static final int MOST_GAPS = MOST_LETTERS + 2;
  private static final int MOST_CHARACTERS = 50;
  private static final int MOST_STATES = 4;
  private static final int MOST_EVENTS = 10;
  private static final int MOST_PULL = 9;
  private static final int MOST_TIMES = 30;
  private static final int LAST_RULE = 2;
  private static final int LEAST_LIMIT = 101;
  private static final int MOST_LIMIT = 200;
  private static final int FIRST_LIMIT = 130;

  private static final int END_NOMINAL = 5000;
  private static final int LAST_LETTER = 7;
  private static final int NO_LETTER = -1;
  private static final int NO_GAP = -1;

  private static final int BY_BEGINNING = 0;
  private static final int BY_WHAT_IS_READ = 1;
  private static final int BY_BOTH_ENDS = 2;

  private static final int WRITTEN = 0;
  private static final int REWOUND = 1;
  private static final int BROKEN = 2;
  private static final int CUT = 3;
  private static final int SPLICED = 4;
  private static final int CLOSED = 5;
  private static final int PUNCHED = 6;

  private static final int NO_WORD = 0;
  private static final int WORD_WRITE = 1;
  private static final int WORD_REWIND = 2;
  private static final int WORD_CUT = 3;
  private static final int WORD_SPLICE = 4;
  private static final int WORD_CLOSE = 5;
  private static final int WORD_PUNCH = 6;
  private static final int FAULT_BASE = -100;
  private static final int NO_FAULT = -1;

  private final State now = new State();
  private final History history = new History();
  private final State snapshot = new State();
  private boolean kept = false;
  private final Text text = new Text();
  private final Command command = new Command();
  private final Reader reader = new Reader();
  private final Reader laterReader = new Reader();
  private final Wire trial = new Wire();

  public StretchSpool() {
  }

  // ---- settings

  public int setRule(int rule) {
    if (rule < 0 || rule > LAST_RULE) {
      return BAD_VALUE;
    }
    int previous = now.rule;
    if (rule == previous) {
      return NONE;
    }
    history.remember(now);
    now.rule = rule;
    return previous;
  }

  public int setLimit(int limit) {
    if (limit < LEAST_LIMIT || limit > MOST_LIMIT) {
      return BAD_VALUE;
    }
    int previous = now.limit;
    if (limit == previous) {
      return NONE;
    }
    history.remember(now);
    now.limit = limit;
    return previous;
  }

  // ---- wires

  public int rewind(int spool, int pull, int times) {
    if (!isSpool(spool)) {
      return UNKNOWN;
    }
    if (!isPull(pull) || times < 1 || times > MOST_TIMES) {
      return BAD_VALUE;
    }
    if (!now.wires[spool].present) {
      return NOT_POSSIBLE;
    }
    history.remember(now);
    return now.wind(spool, pull, times);
  }

  public int cut(int spool, int letter) {
    if (!isSpool(spool) || !now.wires[spool].hasLetter(letter)) {
      return UNKNOWN;
    }
    int other = now.lowestEmpty();
    if (!isSpool(other)) {
      return FULL;
    }
    history.remember(now);
    now.wires[other].takeTail(now.wires[spool], letter);
    now.used += END_NOMINAL;
    now.log.add(CUT, spool, other);
    return other;
  }

  public int splice(int spool, int other) {
    if (!isSpool(spool) || !isSpool(other)) {
      return UNKNOWN;
    }
    if (spool == other) {
      return BAD_VALUE;
    }
    Wire first = now.wires[spool];
    Wire second = now.wires[other];
    if (!first.present || !second.present) {
      return NOT_POSSIBLE;
    }
    if (first.letters + second.letters > MOST_LETTERS) {
      return FULL;
    }
    history.remember(now);
    first.join(second);
    now.log.add(SPLICED, spool, first.letters);
    return first.letters;
  }

  public int close(int spool) {
    if (!isSpool(spool)) {
      return UNKNOWN;
    }
    Wire wire = now.wires[spool];
    if (!wire.present) {
      return NOT_POSSIBLE;
    }
    if (wire.closed) {
      return NONE;
    }
    history.remember(now);
    wire.putEnd();
    now.used += END_NOMINAL;
    now.log.add(CLOSED, spool, wire.letters);
    return wire.letters;
  }

  public int punch(int spool, int way) {
    if (!isSpool(spool)) {
      return UNKNOWN;
    }
    if (!isWay(way)) {
      return BAD_VALUE;
    }
    Wire wire = now.wires[spool];
    if (!wire.canBeReadBy(way)) {
      return NOT_POSSIBLE;
    }
    reader.readAll(wire, way);
    if (reader.unread > 0) {
      return NOT_POSSIBLE;
    }
    history.remember(now);
    wire.punchAll(reader.numbers);
    now.used += wire.sumOfNominals();
    now.log.add(PUNCHED, spool, way);
    return reader.misread;
  }

  // ---- texts

  public int type(char character) {
    if (!text.add(character)) {
      return FULL;
    }
    return text.size;
  }

  public int clearText() {
    int length = text.size;
    text.size = 0;
    return length;
  }

  public int perform() {
    command.parse(text);
    if (command.fault != NO_FAULT) {
      return FAULT_BASE - command.fault;
    }
    switch (command.word) {
      case WORD_WRITE:
        return writeWire(command.first, command.letterPlace, text.size);
      case WORD_REWIND:
        return rewind(command.first, command.second, 1);
      case WORD_CUT:
        return cut(command.first, command.second);
      case WORD_SPLICE:
        return splice(command.first, command.second);
      case WORD_CLOSE:
        return close(command.first);
      default:
        return punch(command.first, command.second);
    }
  }

  /** The letters stand in the text from a place up to, but not with, another one. */
  private int writeWire(int spool, int from, int to) {
    if (!isSpool(spool)) {
      return UNKNOWN;
    }
    Wire wire = now.wires[spool];
    if (wire.present) {
      return NOT_POSSIBLE;
    }
    if (to - from > MOST_LETTERS) {
      return FULL;
    }
    history.remember(now);
    wire.begin();
    for (int place = from; place < to; place++) {
      wire.write(text.codeAt(place) - 'a');
    }
    wire.putEnd();
    now.used += wire.sumOfNominals();
    now.log.add(WRITTEN, spool, wire.letters);
    return wire.letters;
  }

  // ---- history

  public int undo() {
    if (!history.takeBack(now)) {
      return NONE;
    }
    return history.size;
  }

  public int keep() {
    snapshot.copyFrom(now);
    kept = true;
    return now.spoolsWithWire();
  }

  public int restore() {
    if (!kept) {
      return NONE;
    }
    history.remember(now);
    now.copyFrom(snapshot);
    return now.spoolsWithWire();
  }

  // ---- what is told

  public int spool(int spool, int what) {
    if (!isSpool(spool)) {
      return UNKNOWN;
    }
    if (what < 0 || what > 6) {
      return BAD_VALUE;
    }
    Wire wire = now.wires[spool];
    if (!wire.present) {
      return NOT_POSSIBLE;
    }
    switch (what) {
      case 0:
        return wire.letters;
      case 1:
        return wire.closed ? 1 : 0;
      case 2:
        return wire.sumOfLengths();
      case 3:
        return wire.sumOfNominals();
      case 4:
        return wire.rewinds;
      case 5:
        return wire.nearestToLimit();
      default:
        return wire.strain(wire.nearestToLimit());
    }
  }

  public int gap(int spool, int gap, int what) {
    if (!isSpool(spool) || !now.wires[spool].hasGap(gap)) {
      return UNKNOWN;
    }
    Wire wire = now.wires[spool];
    switch (what) {
      case 0:
        return wire.lengths[gap];
      case 1:
        return wire.nominals[gap];
      case 2:
        return wire.truths[gap] == NO_LETTER ? NONE : 'a' + wire.truths[gap];
      case 3:
        return stretchOf(now.rule, MOST_PULL, gap, wire.gaps());
      default:
        return BAD_VALUE;
    }
  }

  public int read(int spool, int way, int letter) {
    if (!isSpool(spool) || !now.wires[spool].hasLetter(letter)) {
      return UNKNOWN;
    }
    if (!isWay(way)) {
      return BAD_VALUE;
    }
    Wire wire = now.wires[spool];
    if (!wire.canBeReadBy(way)) {
      return NOT_POSSIBLE;
    }
    reader.readAll(wire, way);
    int number = reader.numbers[letter];
    return number == NO_LETTER ? '?' : 'a' + number;
  }

  public int errors(int spool, int way, int what) {
    if (!isSpool(spool)) {
      return UNKNOWN;
    }
    if (!isWay(way) || what < 0 || what > 2) {
      return BAD_VALUE;
    }
    Wire wire = now.wires[spool];
    if (!wire.canBeReadBy(way)) {
      return NOT_POSSIBLE;
    }
    reader.readAll(wire, way);
    if (what == 0) {
      return reader.misread;
    }
    if (what == 1) {
      return reader.unread;
    }
    return reader.firstError == NO_LETTER ? NONE : reader.firstError;
  }

  public int bestWay(int spool) {
    if (!isSpool(spool)) {
      return UNKNOWN;
    }
    Wire wire = now.wires[spool];
    if (!wire.present) {
      return NOT_POSSIBLE;
    }
    int best = BY_BEGINNING;
    int fewest = MOST_LETTERS + 1;
    for (int way = BY_BEGINNING; way <= BY_BOTH_ENDS; way++) {
      if (wire.canBeReadBy(way)) {
        reader.readAll(wire, way);
        if (reader.errorCount() < fewest) {
          fewest = reader.errorCount();
          best = way;
        }
      }
    }
    return best;
  }

  public int errorsAfter(int spool, int way, int pull, int times) {
    if (!isSpool(spool)) {
      return UNKNOWN;
    }
    if (!isWayOfOneEnd(way) || !isPull(pull) || times < 0 || times > MOST_TIMES) {
      return BAD_VALUE;
    }
    Wire wire = now.wires[spool];
    if (!wire.present) {
      return NOT_POSSIBLE;
    }
    trial.copyFrom(wire);
    boolean whole = true;
    for (int time = 0; time < times && whole; time++) {
      int broken = trial.stretch(now.rule, now.limit, pull);
      if (broken != NO_GAP) {
        trial.breakAt(broken);
        whole = false;
      }
    }
    laterReader.readAll(trial, way);
    return laterReader.errorCount() + wire.letters - trial.letters;
  }

  public int safeRewinds(int spool, int way, int pull) {
    if (!isSpool(spool)) {
      return UNKNOWN;
    }
    if (!isWayOfOneEnd(way) || !isPull(pull)) {
      return BAD_VALUE;
    }
    Wire wire = now.wires[spool];
    if (!wire.present) {
      return NOT_POSSIBLE;
    }
    reader.readAll(wire, way);
    trial.copyFrom(wire);
    for (int safe = 0; safe < MOST_TIMES; safe++) {
      if (trial.stretch(now.rule, now.limit, pull) != NO_GAP) {
        return safe;
      }
      laterReader.readAll(trial, way);
      if (!laterReader.readTheSame(reader, wire.letters)) {
        return safe;
      }
    }
    return MOST_TIMES;
  }

  public int event(int back, int what) {
    if (back < 0 || what < 0 || what > 2) {
      return BAD_VALUE;
    }
    return now.log.tell(back, what);
  }

  public int count(int what) {
    switch (what) {
      case 0:
        return now.spoolsWithWire();
      case 1:
        return now.lettersOnAll();
      case 2:
        return now.minutes;
      case 3:
        return now.used;
      case 4:
        return now.rewinds;
      case 5:
        return now.breaks;
      case 6:
        return now.lettersLost;
      case 7:
        return now.rule;
      case 8:
        return now.limit;
      case 9:
        return history.size;
      case 10:
        return text.size;
      default:
        return BAD_VALUE;
    }
  }

  // ---- what arguments may be

  private static boolean isSpool(int spool) {
    return spool >= 0 && spool < SPOOLS;
  }

  private static boolean isPull(int pull) {
    return pull >= 0 && pull <= MOST_PULL;
  }

  private static boolean isWay(int way) {
    return way >= BY_BEGINNING && way <= BY_BOTH_ENDS;
  }

  private static boolean isWayOfOneEnd(int way) {
    return way == BY_BEGINNING || way == BY_WHAT_IS_READ;
  }

  // ---- lengths

  private static int nominalOf(int letter) {
    return 2000 + 1000 * letter;
  }

  /** How many ten-thousandths of its length a gap becomes longer by. */
  private static int stretchOf(int rule, int pull, int gap, int gaps) {
    if (rule == 1) {
      return 2 * pull * pull + pull * gap;
    }
    if (rule == 2) {
      return 2 * pull * pull + pull * (gaps - 1 - gap);
    }
    return 4 * pull * pull;
  }

  /** What a spool holds: a wire, or nothing if none is present. */
  private static final class Wire {
    final int[] lengths = new int[MOST_GAPS];
    final int[] nominals = new int[MOST_GAPS];
    final int[] truths = new int[MOST_GAPS];
    boolean present = false;
    boolean closed = false;
    int letters = 0;
    int rewinds = 0;

    Wire() {
    }

    void copyFrom(Wire other) {
      System.arraycopy(other.lengths, 0, lengths, 0, MOST_GAPS);
      System.arraycopy(other.nominals, 0, nominals, 0, MOST_GAPS);
      System.arraycopy(other.truths, 0, truths, 0, MOST_GAPS);
      present = other.present;
      closed = other.closed;
      letters = other.letters;
      rewinds = other.rewinds;
    }

    int gaps() {
      if (!present) {
        return 0;
      }
      return Math.min(closed ? letters + 2 : letters + 1, MOST_GAPS);
    }

    boolean hasGap(int gap) {
      return gap >= 0 && gap < gaps();
    }

    boolean hasLetter(int letter) {
      return letter >= 0 && letter < letters;
    }

    boolean canBeReadBy(int way) {
      return present && (way != BY_BOTH_ENDS || closed);
    }

    void empty() {
      present = false;
      closed = false;
      letters = 0;
      rewinds = 0;
    }

    /** An open wire without letters. */
    void begin() {
      empty();
      present = true;
      putGap(0, END_NOMINAL, NO_LETTER);
    }

    void write(int letter) {
      if (letters < MOST_LETTERS) {
        letters++;
        putGap(letters, nominalOf(letter), letter);
      }
    }

    void putEnd() {
      closed = true;
      putGap(letters + 1, END_NOMINAL, NO_LETTER);
    }

    private void putGap(int gap, int nominal, int truth) {
      if (gap < 0 || gap >= MOST_GAPS) {
        return;
      }
      lengths[gap] = nominal;
      nominals[gap] = nominal;
      truths[gap] = truth;
    }

    private void copyGap(Wire from, int gap, int place) {
      lengths[place] = from.lengths[gap];
      nominals[place] = from.nominals[gap];
      truths[place] = from.truths[gap];
    }

    /** Becomes a new wire of what another one has from a letter on; that one is open then. */
    void takeTail(Wire from, int letter) {
      begin();
      appendBehind(from, letter);
      from.letters = letter;
      from.closed = false;
    }

    /** Takes all of another wire but the gap at its beginning; that one is empty then. */
    void join(Wire other) {
      appendBehind(other, 0);
      other.empty();
    }

    /** Whether a wire ends open or closed is told by what now stands at its end. */
    private void appendBehind(Wire from, int letter) {
      int gaps = from.gaps();
      int place = letters + 1;
      for (int gap = letter + 1; gap < gaps && place < MOST_GAPS; gap++) {
        copyGap(from, gap, place);
        place++;
      }
      letters += from.letters - letter;
      closed = from.closed;
    }

    void punchAll(int[] numbers) {
      putGap(0, END_NOMINAL, NO_LETTER);
      for (int letter = 0; letter < letters && letter < numbers.length; letter++) {
        putGap(letter + 1, nominalOf(numbers[letter]), truths[letter + 1]);
      }
      if (closed) {
        putEnd();
      }
      rewinds = 0;
    }

    /** Rewinds it once; tells the gap at which it has to break, or NO_GAP. */
    int stretch(int rule, int limit, int pull) {
      int gaps = gaps();
      int broken = NO_GAP;
      for (int gap = 0; gap < gaps; gap++) {
        lengths[gap] += lengths[gap] * stretchOf(rule, pull, gap, gaps) / 10000;
        if (broken == NO_GAP && lengths[gap] * 100 > nominals[gap] * limit) {
          broken = gap;
        }
      }
      return broken;
    }

    void breakAt(int gap) {
      if (gap <= 0) {
        empty();
        return;
      }
      letters = Math.min(letters, gap - 1);
      closed = false;
    }

    int sumOfLengths() {
      return sum(lengths);
    }

    int sumOfNominals() {
      return sum(nominals);
    }

    private int sum(int[] values) {
      int total = 0;
      int gaps = gaps();
      for (int gap = 0; gap < gaps && gap < values.length; gap++) {
        total += values[gap];
      }
      return total;
    }

    int nearestToLimit() {
      int nearest = 0;
      int gaps = gaps();
      for (int gap = 1; gap < gaps; gap++) {
        if (strain(gap) > strain(nearest)) {
          nearest = gap;
        }
      }
      return nearest;
    }

    /** The length in thousandths of the nominal one. */
    int strain(int gap) {
      if (!hasGap(gap) || nominals[gap] <= 0) {
        return 0;
      }
      return lengths[gap] * 1000 / nominals[gap];
    }
  }

  /** What is read on a wire, in rows that are used again for each reading. */
  private static final class Reader {
    final int[] numbers = new int[MOST_LETTERS];
    int misread = 0;
    int unread = 0;
    int firstError = NO_LETTER;

    Reader() {
    }

    void readAll(Wire wire, int way) {
      misread = 0;
      unread = 0;
      firstError = NO_LETTER;
      int measure = wire.lengths[0];
      for (int letter = 0; letter < wire.letters && letter < MOST_LETTERS; letter++) {
        int length = wire.lengths[letter + 1];
        if (way == BY_BOTH_ENDS) {
          measure = measureBetweenEnds(wire, letter);
        }
        int number = numberOf(length, measure);
        if (way == BY_WHAT_IS_READ && number != NO_LETTER) {
          measure = (3 * measure + 5 * length / (number + 2)) / 4;
        }
        numbers[letter] = number;
        judge(letter, number, wire.truths[letter + 1]);
      }
    }

    private static int measureBetweenEnds(Wire wire, int letter) {
      int begin = wire.lengths[0];
      int end = wire.letters + 1;
      if (end <= 0 || !wire.hasGap(end)) {
        return begin;
      }
      return begin + (wire.lengths[end] - begin) * (letter + 1) / end;
    }

    /** The number of the letter, or NO_LETTER if it cannot be read. */
    private static int numberOf(int length, int measure) {
      if (measure <= 0) {
        return NO_LETTER;
      }
      int number = (10 * length + measure) / (2 * measure) - 2;
      return number >= 0 && number <= LAST_LETTER ? number : NO_LETTER;
    }

    private void judge(int letter, int number, int truth) {
      if (number == truth) {
        return;
      }
      if (number == NO_LETTER) {
        unread++;
      } else {
        misread++;
      }
      if (firstError == NO_LETTER) {
        firstError = letter;
      }
    }

    int errorCount() {
      return misread + unread;
    }

    boolean readTheSame(Reader other, int letters) {
      for (int letter = 0; letter < letters && letter < MOST_LETTERS; letter++) {
        if (numbers[letter] != other.numbers[letter]) {
          return false;
        }
      }
      return true;
    }
  }

  /** The latest events, the oldest one first. */
  private static final class Log {
    private final int[] kinds = new int[MOST_EVENTS];
    private final int[] spools = new int[MOST_EVENTS];
    private final int[] numbers = new int[MOST_EVENTS];
    private int size = 0;

    Log() {
    }

    void copyFrom(Log other) {
      System.arraycopy(other.kinds, 0, kinds, 0, MOST_EVENTS);
      System.arraycopy(other.spools, 0, spools, 0, MOST_EVENTS);
      System.arraycopy(other.numbers, 0, numbers, 0, MOST_EVENTS);
      size = other.size;
    }

    void add(int kind, int spool, int number) {
      if (size == MOST_EVENTS) {
        dropOldest();
      }
      kinds[size] = kind;
      spools[size] = spool;
      numbers[size] = number;
      size++;
    }

    private void dropOldest() {
      System.arraycopy(kinds, 1, kinds, 0, MOST_EVENTS - 1);
      System.arraycopy(spools, 1, spools, 0, MOST_EVENTS - 1);
      System.arraycopy(numbers, 1, numbers, 0, MOST_EVENTS - 1);
      size = MOST_EVENTS - 1;
    }

    int tell(int back, int what) {
      if (back < 0 || back >= size) {
        return NONE;
      }
      int place = size - 1 - back;
      if (what == 0) {
        return kinds[place];
      }
      return what == 1 ? spools[place] : numbers[place];
    }
  }

  /** Everything that undo and the snapshot bring back. */
  private static final class State {
    final Wire[] wires = new Wire[SPOOLS];
    final Log log = new Log();
    int rule = 0;
    int limit = FIRST_LIMIT;
    int minutes = 0;
    int used = 0;
    int rewinds = 0;
    int breaks = 0;
    int lettersLost = 0;

    State() {
      for (int spool = 0; spool < SPOOLS; spool++) {
        wires[spool] = new Wire();
      }
    }

    void copyFrom(State other) {
      for (int spool = 0; spool < SPOOLS; spool++) {
        wires[spool].copyFrom(other.wires[spool]);
      }
      log.copyFrom(other.log);
      rule = other.rule;
      limit = other.limit;
      minutes = other.minutes;
      used = other.used;
      rewinds = other.rewinds;
      breaks = other.breaks;
      lettersLost = other.lettersLost;
    }

    int spoolsWithWire() {
      int found = 0;
      for (int spool = 0; spool < SPOOLS; spool++) {
        if (wires[spool].present) {
          found++;
        }
      }
      return found;
    }

    int lettersOnAll() {
      int found = 0;
      for (int spool = 0; spool < SPOOLS; spool++) {
        found += wires[spool].letters;
      }
      return found;
    }

    /** SPOOLS, which is no spool, if none is empty. */
    int lowestEmpty() {
      for (int spool = 0; spool < SPOOLS; spool++) {
        if (!wires[spool].present) {
          return spool;
        }
      }
      return SPOOLS;
    }

    /** Tells how often it was rewound until it broke, or in all. */
    int wind(int spool, int pull, int times) {
      for (int time = 1; time <= times; time++) {
        int broken = wires[spool].stretch(rule, limit, pull);
        wires[spool].rewinds++;
        rewinds++;
        minutes += 10 - pull;
        log.add(REWOUND, spool, pull);
        if (broken != NO_GAP) {
          breakWire(spool, broken);
          return time;
        }
      }
      return times;
    }

    private void breakWire(int spool, int gap) {
      Wire wire = wires[spool];
      int gapsLost = wire.gaps() - gap;
      int lettersBefore = wire.letters;
      wire.breakAt(gap);
      breaks++;
      lettersLost += lettersBefore - wire.letters;
      log.add(BROKEN, spool, gapsLost);
    }
  }

  /** The states before the latest acts, the oldest one first, in states that are used again. */
  private static final class History {
    private final State[] states = new State[MOST_STATES];
    private int size = 0;

    History() {
      for (int place = 0; place < MOST_STATES; place++) {
        states[place] = new State();
      }
    }

    void remember(State state) {
      if (size == MOST_STATES) {
        turn();
      }
      states[size].copyFrom(state);
      size++;
    }

    /** The oldest state's room goes to the end, to take the next one. */
    private void turn() {
      State oldest = states[0];
      for (int place = 1; place < MOST_STATES; place++) {
        states[place - 1] = states[place];
      }
      states[MOST_STATES - 1] = oldest;
      size = MOST_STATES - 1;
    }

    boolean takeBack(State into) {
      if (size == 0) {
        return false;
      }
      size--;
      into.copyFrom(states[size]);
      return true;
    }
  }

  /** Characters in an array, as a text of the library is to hold none above 255. */
  private static final class Text {
    static final int END = -1;

    private final char[] characters = new char[MOST_CHARACTERS];
    private int size = 0;

    Text() {
    }

    boolean add(char character) {
      if (size >= MOST_CHARACTERS) {
        return false;
      }
      characters[size] = character;
      size++;
      return true;
    }

    /** END where the text has no character. */
    int codeAt(int place) {
      if (place < 0 || place >= size) {
        return END;
      }
      return characters[place];
    }

    boolean startsWith(String word, int length) {
      if (word.length() != length) {
        return false;
      }
      for (int place = 0; place < length; place++) {
        if (codeAt(place) != word.charAt(place)) {
          return false;
        }
      }
      return true;
    }
  }

  /** A text taken apart: its word and what follows, or its fault. */
  private static final class Command {
    int word = NO_WORD;
    int first = 0;
    int second = 0;
    int letterPlace = 0;
    int fault = NO_FAULT;
    private int place = 0;

    Command() {
    }

    void parse(Text text) {
      first = 0;
      second = 0;
      letterPlace = 0;
      fault = NO_FAULT;
      place = lengthOfWord(text);
      word = wordOf(text, place);
      if (word == NO_WORD) {
        fault = 0;
        return;
      }
      first = parseNumber(text);
      if (word == WORD_WRITE) {
        parseLetters(text);
      } else if (word != WORD_CLOSE) {
        second = parseNumber(text);
      }
      if (fault == NO_FAULT && text.codeAt(place) != Text.END) {
        fault = place;
      }
    }

    private static int lengthOfWord(Text text) {
      int length = 0;
      while (length < MOST_CHARACTERS && isBetween(text.codeAt(length), 'a', 'z')) {
        length++;
      }
      return length;
    }

    private static int wordOf(Text text, int length) {
      if (text.startsWith("write", length)) {
        return WORD_WRITE;
      }
      if (text.startsWith("rewind", length)) {
        return WORD_REWIND;
      }
      if (text.startsWith("cut", length)) {
        return WORD_CUT;
      }
      if (text.startsWith("splice", length)) {
        return WORD_SPLICE;
      }
      if (text.startsWith("close", length)) {
        return WORD_CLOSE;
      }
      return text.startsWith("punch", length) ? WORD_PUNCH : NO_WORD;
    }

    /** A fault that was found stays: what is behind it is not looked at. */
    private int parseNumber(Text text) {
      parseBlank(text);
      if (fault != NO_FAULT) {
        return 0;
      }
      if (!isBetween(text.codeAt(place), '0', '9')) {
        fault = place;
        return 0;
      }
      int number = text.codeAt(place) - '0';
      place++;
      if (number != 0 && isBetween(text.codeAt(place), '0', '9')) {
        number = 10 * number + text.codeAt(place) - '0';
        place++;
      }
      return number;
    }

    private void parseLetters(Text text) {
      parseBlank(text);
      if (fault != NO_FAULT) {
        return;
      }
      letterPlace = place;
      while (place < MOST_CHARACTERS && isBetween(text.codeAt(place), 'a', 'h')) {
        place++;
      }
      if (place == letterPlace) {
        fault = place;
      }
    }

    private void parseBlank(Text text) {
      if (fault != NO_FAULT) {
        return;
      }
      if (text.codeAt(place) != ' ') {
        fault = place;
        return;
      }
      place++;
    }

    private static boolean isBetween(int code, int first, int last) {
      return code >= first && code <= last;
    }
  }
}
