/** Compares long runs of calls with the model: usual ones, wrong ones, and wild ones. */
public final class ModelTest {
  private static final int RUNS = 800;
  private static final int CALLS = 512;
  private static final String[] WORDS = {"write", "rewind", "cut", "splice", "close", "punch"};
  private static final int[] WILD = {
    Integer.MIN_VALUE, Integer.MIN_VALUE + 1, -100000, -6, -1, 0, 1, 9, 30, 31, 200, 65536, Integer.MAX_VALUE - 1,
    Integer.MAX_VALUE
  };

  private long seed;
  private int wildness;
  private StretchSpool x;
  private Model y;
  private String told = "";

  public static void main(String[] args) {
    ModelTest test = new ModelTest();
    for (int run = 0; run < RUNS; run++) {
      test.run(run);
    }
    Due.end();
  }

  private void run(int run) {
    seed = 7919L * run + 17;
    wildness = new int[] {0, 4, 10, 50}[run % 4];
    x = new StretchSpool();
    y = new Model();
    for (int call = 0; call < CALLS; call++) {
      oneCall("run " + run + ", call " + call + ": ");
    }
    everyQuestion("run " + run + ", at last: ");
  }

  /** A counter's numbers, stirred: the same in every run of the test. */
  private int next(int bound) {
    seed = seed * 6364136223846793005L + 1442695040888963407L;
    return (int) Math.floorMod(seed >>> 33, (long) bound);
  }

  /** Usually from least to most, now and then just outside, in wild runs anything. */
  private int number(int least, int most) {
    if (next(100) < wildness) {
      return next(2) == 0 ? WILD[next(WILD.length)] : least - 1 + next(2) * (most - least + 2);
    }
    return least + next(most - least + 1);
  }

  private int spool() {
    return number(0, next(3) == 0 ? 5 : 2);
  }

  /** One of the letters of a wire, mostly, where it has any. */
  private int letter(int spool) {
    return number(0, Math.max(0, y.spool(spool, 0) - 1));
  }

  private int pull() {
    return next(3) == 0 ? number(0, 9) : number(4, 9);
  }

  private int times() {
    return next(4) == 0 ? number(1, 30) : number(1, 5);
  }

  private void same(String call, int got, int want) {
    Due.is(told + call, got, want);
  }

  private void oneCall(String where) {
    told = where;
    int kind = next(20);
    if (kind < 7) {
      command();
    } else if (kind < 14) {
      act();
    } else if (kind == 14 && next(12) == 0) {
      everyQuestion(where);
    } else {
      question();
    }
  }

  private void command() {
    StringBuilder text = new StringBuilder(WORDS[next(3) == 0 ? 0 : next(WORDS.length)]);
    text.append(' ').append(Math.abs(spool()) % 100);
    if (text.indexOf("write") == 0) {
      text.append(' ');
      int letters = next(8) == 0 ? next(43) : next(12);
      int from = next(8);
      for (int letter = 0; letter <= letters; letter++) {
        text.append((char) ('a' + (next(2) == 0 ? next(8) : from)));
      }
    } else if (text.indexOf("close") != 0) {
      text.append(' ').append(next(5) == 0 ? next(100) : next(10));
    }
    if (next(5) == 0) {
      spoil(text);
    }
    same("clearText()", x.clearText(), y.clearText());
    for (int place = 0; place < text.length(); place++) {
      same("type", x.type(text.charAt(place)), y.type(text.charAt(place)));
    }
    same("perform() of \"" + text + "\"", x.perform(), y.perform());
  }

  private void spoil(StringBuilder text) {
    int place = next(text.length());
    String signs = "0159 aghiz-AZ`{:/\n";
    char sign = next(10) == 0 ? (char) next(65536) : signs.charAt(next(signs.length()));
    switch (next(4)) {
      case 0:
        text.setLength(place);
        break;
      case 1:
        text.setCharAt(place, sign);
        break;
      case 2:
        text.insert(place, sign);
        break;
      default:
        text.append(sign);
        break;
    }
  }

  private void act() {
    int spool = spool();
    switch (next(13)) {
      case 0:
        int rule = number(0, 2);
        same("setRule(" + rule + ")", x.setRule(rule), y.setRule(rule));
        break;
      case 1:
        int limit = next(3) == 0 ? number(101, 110) : number(101, 200);
        same("setLimit(" + limit + ")", x.setLimit(limit), y.setLimit(limit));
        break;
      case 2:
      case 3:
      case 4:
        int pull = pull();
        int times = times();
        same("rewind(" + spool + ", " + pull + ", " + times + ")", x.rewind(spool, pull, times), y.rewind(spool, pull, times));
        break;
      case 5:
      case 6:
        int letter = letter(spool);
        same("cut(" + spool + ", " + letter + ")", x.cut(spool, letter), y.cut(spool, letter));
        break;
      case 7:
        int other = spool();
        same("splice(" + spool + ", " + other + ")", x.splice(spool, other), y.splice(spool, other));
        break;
      case 8:
        same("close(" + spool + ")", x.close(spool), y.close(spool));
        break;
      case 9:
        int way = number(0, 2);
        same("punch(" + spool + ", " + way + ")", x.punch(spool, way), y.punch(spool, way));
        break;
      case 10:
        same("undo()", x.undo(), y.undo());
        break;
      case 11:
        same("keep()", x.keep(), y.keep());
        break;
      default:
        same("restore()", x.restore(), y.restore());
        break;
    }
  }

  private void question() {
    int spool = spool();
    int way = number(0, 2);
    int way2 = number(0, 1);
    int pull = pull();
    int letter = letter(spool);
    int what = number(0, 10);
    int times = times();
    String of = "(" + spool + ", " + way + ", " + letter + "/" + what + ") or (" + way2 + ", " + pull + ", " + times + ")";
    switch (next(9)) {
      case 0:
        same("spool" + of, x.spool(spool, what), y.spool(spool, what));
        break;
      case 1:
        same("gap" + of, x.gap(spool, letter, what), y.gap(spool, letter, what));
        break;
      case 2:
        same("read" + of, x.read(spool, way, letter), y.read(spool, way, letter));
        break;
      case 3:
        int kind = number(0, 2);
        same("errors" + of, x.errors(spool, way, kind), y.errors(spool, way, kind));
        break;
      case 4:
        same("bestWay" + of, x.bestWay(spool), y.bestWay(spool));
        break;
      case 5:
        same("errorsAfter" + of, x.errorsAfter(spool, way2, pull, times), y.errorsAfter(spool, way2, pull, times));
        break;
      case 6:
        same("safeRewinds" + of, x.safeRewinds(spool, way2, pull), y.safeRewinds(spool, way2, pull));
        break;
      case 7:
        same("event" + of, x.event(what, way), y.event(what, way));
        break;
      default:
        same("count" + of, x.count(what), y.count(what));
        break;
    }
  }

  private void everyQuestion(String where) {
    told = where;
    for (int what = -1; what <= 11; what++) {
      same("count(" + what + ")", x.count(what), y.count(what));
      for (int part = -1; part <= 3; part++) {
        same("event(" + what + ", " + part + ")", x.event(what, part), y.event(what, part));
      }
    }
    for (int spool = -1; spool <= 6; spool++) {
      ofOneSpool(spool);
    }
  }

  private void ofOneSpool(int spool) {
    same("bestWay(" + spool + ")", x.bestWay(spool), y.bestWay(spool));
    for (int what = -1; what <= 7; what++) {
      same("spool(" + spool + ", " + what + ")", x.spool(spool, what), y.spool(spool, what));
    }
    for (int gap = -1; gap <= 33; gap++) {
      for (int what = -1; what <= 4; what++) {
        same("gap(" + spool + ", " + gap + ", " + what + ")", x.gap(spool, gap, what), y.gap(spool, gap, what));
        same("read(" + spool + ", " + what + ", " + gap + ")", x.read(spool, what, gap), y.read(spool, what, gap));
      }
    }
    for (int way = -1; way <= 3; way++) {
      for (int what = -1; what <= 3; what++) {
        same("errors(" + spool + ", " + way + ", " + what + ")", x.errors(spool, way, what), y.errors(spool, way, what));
      }
      for (int pull = -1; pull <= 10; pull++) {
        String of = "(" + spool + ", " + way + ", " + pull + ")";
        same("safeRewinds" + of, x.safeRewinds(spool, way, pull), y.safeRewinds(spool, way, pull));
        int times = next(33) - 1;
        same("errorsAfter" + of + " " + times, x.errorsAfter(spool, way, pull, times), y.errorsAfter(spool, way, pull, times));
      }
    }
  }
}
