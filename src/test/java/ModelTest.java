import java.util.ArrayList;
import java.util.List;
import java.util.function.ToIntFunction;

/**
 * Compares long runs of calls with the model: usual ones, wrong ones, and wild ones. As an object is used
 * for at most 512 calls, one that was asked so much is made anew by the calls of its run.
 */
public final class ModelTest {
  private static final int RUNS = 1600;
  private static final int CALLS = 512;
  private static final int MOST_FOR_ONE_STEP = 60;
  private static final String[] WORDS = {"write", "rewind", "cut", "splice", "close", "punch"};
  private static final int[] WILD = {
    Integer.MIN_VALUE, Integer.MIN_VALUE + 1, -100000, -6, -1, 0, 1, 9, 30, 31, 200, 65536, Integer.MAX_VALUE - 1,
    Integer.MAX_VALUE
  };

  private long seed;
  private int wildness;
  private StretchSpool x;
  private int asked;
  private final List<ToIntFunction<StretchSpool>> past = new ArrayList<>();
  private Model y;
  private String told = "";

  public static void main(String[] args) {
    ModelTest test = new ModelTest();
    for (int run = 0; run < RUNS; run++) {
      test.run(run);
    }
    Due.end();
  }

  /** Every other run is a shorter one, behind which everything is asked. */
  private void run(int run) {
    seed = 7919L * run + 17;
    wildness = new int[] {0, 4, 10, 50}[run / 2 % 4];
    x = new StretchSpool();
    y = new Model();
    past.clear();
    int calls = run % 2 == 0 ? CALLS - MOST_FOR_ONE_STEP : 20 + next(380);
    while (past.size() < calls) {
      oneStep("run " + run + ", call " + past.size() + ": ");
    }
    asked = past.size();
    if (run % 2 == 1) {
      everyQuestion("run " + run + ", at last: ");
    }
  }

  /** A counter's numbers, stirred: the same in every run of the test. */
  private int next(int bound) {
    seed = seed * 6364136223846793005L + 1442695040888963407L;
    return (int) Math.floorMod(seed >>> 33, (long) bound);
  }

  /** Usually from least to most, now and then just outside, in wild runs anything. */
  private int number(int least, int most) {
    if (next(100) < wildness) {
      return next(2) == 0 ? WILD[next(WILD.length)] : least - 1 + next(2) * (most - least + 2);
    }
    return least + next(most - least + 1);
  }

  private int spool() {
    return number(0, next(3) == 0 ? 5 : 2);
  }

  /** One of the letters of a wire, mostly, where it has any. */
  private int letter(int spool) {
    return number(0, Math.max(0, y.spool(spool, 0) - 1));
  }

  private int pull() {
    return next(3) == 0 ? number(0, 9) : number(4, 9);
  }

  private int times() {
    return next(4) == 0 ? number(1, 30) : number(1, 5);
  }

  /** A call of the run itself. */
  private void same(String call, ToIntFunction<StretchSpool> of, int want) {
    past.add(of);
    Due.is(told + call, of.applyAsInt(x), want);
  }

  /** A question behind the run. */
  private void ask(String call, ToIntFunction<StretchSpool> of, int want) {
    if (asked == CALLS) {
      x = new StretchSpool();
      for (ToIntFunction<StretchSpool> one : past) {
        one.applyAsInt(x);
      }
      asked = past.size();
    }
    asked++;
    Due.is(told + call, of.applyAsInt(x), want);
  }

  private void oneStep(String where) {
    told = where;
    int kind = next(20);
    if (kind < 7) {
      command();
    } else if (kind < 14) {
      act();
    } else {
      question();
    }
  }

  private void command() {
    StringBuilder text = new StringBuilder(WORDS[next(3) == 0 ? 0 : next(WORDS.length)]);
    text.append(' ').append(Math.abs(spool()) % 100);
    if (text.indexOf("write") == 0) {
      text.append(' ');
      int letters = next(8) == 0 ? next(43) : next(12);
      int from = next(8);
      for (int letter = 0; letter <= letters; letter++) {
        text.append((char) ('a' + (next(2) == 0 ? next(8) : from)));
      }
    } else if (text.indexOf("close") != 0) {
      text.append(' ').append(next(5) == 0 ? next(100) : next(10));
    }
    if (next(5) == 0) {
      spoil(text);
    }
    same("clearText()", o -> o.clearText(), y.clearText());
    for (char sign : text.toString().toCharArray()) {
      same("type", o -> o.type(sign), y.type(sign));
    }
    same("perform() of \"" + text + "\"", o -> o.perform(), y.perform());
  }

  private void spoil(StringBuilder text) {
    int place = next(text.length());
    String signs = "0159 aghiz-AZ`{:/\n";
    char sign = next(10) == 0 ? (char) next(65536) : signs.charAt(next(signs.length()));
    switch (next(4)) {
      case 0:
        text.setLength(place);
        break;
      case 1:
        text.setCharAt(place, sign);
        break;
      case 2:
        text.insert(place, sign);
        break;
      default:
        text.append(sign);
        break;
    }
  }

  private void act() {
    int spool = spool();
    switch (next(13)) {
      case 0:
        int rule = number(0, 2);
        same("setRule(" + rule + ")", o -> o.setRule(rule), y.setRule(rule));
        break;
      case 1:
        int limit = next(3) == 0 ? number(101, 110) : number(101, 200);
        same("setLimit(" + limit + ")", o -> o.setLimit(limit), y.setLimit(limit));
        break;
      case 2:
      case 3:
      case 4:
        int pull = pull();
        int times = times();
        same("rewind(" + spool + ", " + pull + ", " + times + ")", o -> o.rewind(spool, pull, times), y.rewind(spool, pull, times));
        break;
      case 5:
      case 6:
        int letter = letter(spool);
        same("cut(" + spool + ", " + letter + ")", o -> o.cut(spool, letter), y.cut(spool, letter));
        break;
      case 7:
        int other = spool();
        same("splice(" + spool + ", " + other + ")", o -> o.splice(spool, other), y.splice(spool, other));
        break;
      case 8:
        same("close(" + spool + ")", o -> o.close(spool), y.close(spool));
        break;
      case 9:
        int way = number(0, 2);
        same("punch(" + spool + ", " + way + ")", o -> o.punch(spool, way), y.punch(spool, way));
        break;
      case 10:
        same("undo()", o -> o.undo(), y.undo());
        break;
      case 11:
        same("keep()", o -> o.keep(), y.keep());
        break;
      default:
        same("restore()", o -> o.restore(), y.restore());
        break;
    }
  }

  private void question() {
    int spool = spool();
    int way = number(0, 2);
    int way2 = number(0, 1);
    int pull = pull();
    int letter = letter(spool);
    int what = number(0, 10);
    int times = times();
    String of = "(" + spool + ", " + way + ", " + letter + "/" + what + ") or (" + way2 + ", " + pull + ", " + times + ")";
    switch (next(9)) {
      case 0:
        same("spool" + of, o -> o.spool(spool, what), y.spool(spool, what));
        break;
      case 1:
        same("gap" + of, o -> o.gap(spool, letter, what), y.gap(spool, letter, what));
        break;
      case 2:
        same("read" + of, o -> o.read(spool, way, letter), y.read(spool, way, letter));
        break;
      case 3:
        int kind = number(0, 2);
        same("errors" + of, o -> o.errors(spool, way, kind), y.errors(spool, way, kind));
        break;
      case 4:
        same("bestWay" + of, o -> o.bestWay(spool), y.bestWay(spool));
        break;
      case 5:
        same("errorsAfter" + of, o -> o.errorsAfter(spool, way2, pull, times), y.errorsAfter(spool, way2, pull, times));
        break;
      case 6:
        same("safeRewinds" + of, o -> o.safeRewinds(spool, way2, pull), y.safeRewinds(spool, way2, pull));
        break;
      case 7:
        same("event" + of, o -> o.event(what, way), y.event(what, way));
        break;
      default:
        same("count" + of, o -> o.count(what), y.count(what));
        break;
    }
  }

  private static int[] from(int least, int most) {
    int[] all = new int[most - least + 1];
    for (int place = 0; place < all.length; place++) {
      all[place] = least + place;
    }
    return all;
  }

  private void everyQuestion(String where) {
    told = where;
    for (int what : from(-1, 11)) {
      ask("count(" + what + ")", o -> o.count(what), y.count(what));
      for (int part : from(-1, 3)) {
        ask("event(" + what + ", " + part + ")", o -> o.event(what, part), y.event(what, part));
      }
    }
    for (int spool : from(-1, 6)) {
      ofOneSpool(spool);
    }
  }

  private void ofOneSpool(int spool) {
    ask("bestWay(" + spool + ")", o -> o.bestWay(spool), y.bestWay(spool));
    for (int what : from(-1, 7)) {
      ask("spool(" + spool + ", " + what + ")", o -> o.spool(spool, what), y.spool(spool, what));
    }
    for (int gap : from(-1, 33)) {
      for (int what : from(-1, 4)) {
        ask("gap(" + spool + ", " + gap + ", " + what + ")", o -> o.gap(spool, gap, what), y.gap(spool, gap, what));
        ask("read(" + spool + ", " + what + ", " + gap + ")", o -> o.read(spool, what, gap), y.read(spool, what, gap));
      }
    }
    for (int way : from(-1, 3)) {
      for (int what : from(-1, 3)) {
        ask("errors(" + spool + ", " + way + ", " + what + ")", o -> o.errors(spool, way, what), y.errors(spool, way, what));
      }
      for (int pull : from(-1, 10)) {
        String of = "(" + spool + ", " + way + ", " + pull + ")";
        ask("safeRewinds" + of, o -> o.safeRewinds(spool, way, pull), y.safeRewinds(spool, way, pull));
        int times = next(33) - 1;
        ask("errorsAfter" + of + " " + times, o -> o.errorsAfter(spool, way, pull, times), y.errorsAfter(spool, way, pull, times));
      }
    }
  }
}
