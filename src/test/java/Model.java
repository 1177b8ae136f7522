import java.math.BigInteger;
import java.util.ArrayList;
import java.util.List;
import java.util.regex.Matcher;
import java.util.regex.Pattern;

/**
 * The document once more, written apart from the class and in another way: immutable gaps, lists,
 * fractions by BigInteger, states as whole copies. ModelTest compares the two.
 */
final class Model {
  static final int UNKNOWN = -1, BAD = -2, FULL = -3, NOT_POSSIBLE = -4, NONE = -5;

  record Gap(int length, int nominal, int truth) {
    static Gap end() {
      return new Gap(5000, 5000, -1);
    }

    Gap anew(int letter) {
      return new Gap(2000 + 1000 * letter, 2000 + 1000 * letter, truth);
    }
  }

  record Wire(Gap begin, List<Gap> letters, Gap end, int rewinds) {
    List<Gap> all() {
      List<Gap> all = new ArrayList<>();
      all.add(begin);
      all.addAll(letters);
      if (end != null) {
        all.add(end);
      }
      return all;
    }

    static Wire of(List<Gap> all, int letters, int rewinds) {
      if (all.isEmpty()) {
        return null;
      }
      int count = Math.min(letters, all.size() - 1);
      Gap end = all.size() == letters + 2 ? all.get(letters + 1) : null;
      return new Wire(all.get(0), List.copyOf(all.subList(1, count + 1)), end, rewinds);
    }
  }

  record Event(int kind, int spool, int number) {
  }

  record State(List<Wire> wires, List<Event> log, int rule, int limit, long minutes, long used,
      long rewinds, long breaks, long lost) {
  }

  private List<Wire> wires = new ArrayList<>();
  private List<Event> log = new ArrayList<>();
  private int rule = 0;
  private int limit = 130;
  private long minutes = 0;
  private long used = 0;
  private long rewinds = 0;
  private long breaks = 0;
  private long lost = 0;
  private final List<State> history = new ArrayList<>();
  private State snapshot = null;
  private String text = "";

  Model() {
    for (int spool = 0; spool < 6; spool++) {
      wires.add(null);
    }
  }

  private State state() {
    return new State(new ArrayList<>(wires), new ArrayList<>(log), rule, limit, minutes, used, rewinds, breaks, lost);
  }

  private void become(State state) {
    wires = new ArrayList<>(state.wires());
    log = new ArrayList<>(state.log());
    rule = state.rule();
    limit = state.limit();
    minutes = state.minutes();
    used = state.used();
    rewinds = state.rewinds();
    breaks = state.breaks();
    lost = state.lost();
  }

  private int act(State before, int answer) {
    if (answer >= 0) {
      history.add(before);
      if (history.size() > 4) {
        history.remove(0);
      }
    }
    return answer;
  }

  private static boolean in(int value, int least, int most) {
    return least <= value && value <= most;
  }

  private static int quotient(long dividend, long divisor) {
    return BigInteger.valueOf(dividend).divide(BigInteger.valueOf(divisor)).intValueExact();
  }

  private int stretchBy(int pull, int gap, int gaps) {
    int[] byRule = {
      4 * pull * pull, 2 * pull * pull + pull * gap, 2 * pull * pull + pull * (gaps - 1 - gap)
    };
    return byRule[rule];
  }

  /** The wire after one rewind and its break; null if nothing is left of it. */
  private Wire afterOne(Wire wire, int pull) {
    List<Gap> stretched = new ArrayList<>();
    List<Gap> all = wire.all();
    for (int gap = 0; gap < all.size(); gap++) {
      Gap old = all.get(gap);
      int more = quotient((long) old.length() * stretchBy(pull, gap, all.size()), 10000);
      stretched.add(new Gap(old.length() + more, old.nominal(), old.truth()));
    }
    List<Gap> whole = new ArrayList<>();
    for (Gap gap : stretched) {
      if ((long) gap.length() * 100 > (long) gap.nominal() * limit) {
        break;
      }
      whole.add(gap);
    }
    return Wire.of(whole, wire.letters().size(), wire.rewinds() + 1);
  }

  private static int gapsOf(Wire wire) {
    return wire == null ? 0 : wire.all().size();
  }

  private static int lettersOf(Wire wire) {
    return wire == null ? 0 : wire.letters().size();
  }

  /** The numbers of the letters that are read, -1 for those that cannot be read. */
  private static List<Integer> readings(Wire wire, int way) {
    List<Integer> numbers = new ArrayList<>();
    int count = wire.letters().size();
    int b = wire.begin().length();
    int m = b;
    for (int i = 0; i < count; i++) {
      int length = wire.letters().get(i).length();
      if (way == 2) {
        m = b + quotient((long) (wire.end().length() - b) * (i + 1), count + 1);
      }
      int number = quotient(10L * length + m, 2L * m) - 2;
      numbers.add(in(number, 0, 7) ? number : -1);
      if (way == 1 && in(number, 0, 7)) {
        m = quotient(3L * m + quotient(5L * length, number + 2), 4);
      }
    }
    return numbers;
  }

  private static int misread(Wire wire, int way) {
    List<Integer> numbers = readings(wire, way);
    int found = 0;
    for (int i = 0; i < numbers.size(); i++) {
      found += numbers.get(i) >= 0 && numbers.get(i) != wire.letters().get(i).truth() ? 1 : 0;
    }
    return found;
  }

  private static int unread(Wire wire, int way) {
    return (int) readings(wire, way).stream().filter(number -> number < 0).count();
  }

  private void tell(int kind, int spool, int number) {
    log.add(0, new Event(kind, spool, number));
    if (log.size() > 10) {
      log.remove(10);
    }
  }

  int setRule(int to) {
    State before = state();
    if (!in(to, 0, 2)) {
      return BAD;
    }
    rule = to;
    return to == before.rule() ? NONE : act(before, before.rule());
  }

  int setLimit(int to) {
    State before = state();
    if (!in(to, 101, 200)) {
      return BAD;
    }
    limit = to;
    return to == before.limit() ? NONE : act(before, before.limit());
  }

  int rewind(int spool, int pull, int times) {
    if (!in(spool, 0, 5)) {
      return UNKNOWN;
    }
    if (!in(pull, 0, 9) || !in(times, 1, 30)) {
      return BAD;
    }
    if (wires.get(spool) == null) {
      return NOT_POSSIBLE;
    }
    State before = state();
    int done = 0;
    boolean whole = true;
    while (done < times && whole) {
      Wire old = wires.get(spool);
      Wire then = afterOne(old, pull);
      wires.set(spool, then);
      done++;
      rewinds++;
      minutes += 10 - pull;
      tell(1, spool, pull);
      whole = gapsOf(then) == gapsOf(old);
      if (!whole) {
        breaks++;
        lost += lettersOf(old) - lettersOf(then);
        tell(2, spool, gapsOf(old) - gapsOf(then));
      }
    }
    return act(before, done);
  }

  int cut(int spool, int letter) {
    if (!in(spool, 0, 5) || !in(letter, 0, lettersOf(wires.get(spool)) - 1)) {
      return UNKNOWN;
    }
    int other = wires.indexOf(null);
    if (other < 0) {
      return FULL;
    }
    State before = state();
    Wire wire = wires.get(spool);
    int count = wire.letters().size();
    wires.set(other, new Wire(Gap.end(), List.copyOf(wire.letters().subList(letter, count)), wire.end(), 0));
    wires.set(spool, new Wire(wire.begin(), List.copyOf(wire.letters().subList(0, letter)), null, wire.rewinds()));
    used += 5000;
    tell(3, spool, other);
    return act(before, other);
  }

  int splice(int spool, int other) {
    if (!in(spool, 0, 5) || !in(other, 0, 5)) {
      return UNKNOWN;
    }
    if (spool == other) {
      return BAD;
    }
    Wire first = wires.get(spool);
    Wire second = wires.get(other);
    if (first == null || second == null) {
      return NOT_POSSIBLE;
    }
    List<Gap> letters = new ArrayList<>(first.letters());
    letters.addAll(second.letters());
    if (letters.size() > 30) {
      return FULL;
    }
    State before = state();
    wires.set(spool, new Wire(first.begin(), letters, second.end(), first.rewinds()));
    wires.set(other, null);
    tell(4, spool, letters.size());
    return act(before, letters.size());
  }

  int close(int spool) {
    if (!in(spool, 0, 5)) {
      return UNKNOWN;
    }
    Wire wire = wires.get(spool);
    if (wire == null) {
      return NOT_POSSIBLE;
    }
    if (wire.end() != null) {
      return NONE;
    }
    State before = state();
    wires.set(spool, new Wire(wire.begin(), wire.letters(), Gap.end(), wire.rewinds()));
    used += 5000;
    tell(5, spool, wire.letters().size());
    return act(before, wire.letters().size());
  }

  int punch(int spool, int way) {
    if (!in(spool, 0, 5)) {
      return UNKNOWN;
    }
    if (!in(way, 0, 2)) {
      return BAD;
    }
    Wire wire = wires.get(spool);
    if (wire == null || way == 2 && wire.end() == null || unread(wire, way) > 0) {
      return NOT_POSSIBLE;
    }
    State before = state();
    int wrong = misread(wire, way);
    List<Integer> numbers = readings(wire, way);
    List<Gap> letters = new ArrayList<>();
    for (int i = 0; i < numbers.size(); i++) {
      letters.add(wire.letters().get(i).anew(numbers.get(i)));
    }
    Wire anew = new Wire(Gap.end(), letters, wire.end() == null ? null : Gap.end(), 0);
    wires.set(spool, anew);
    used += anew.all().stream().mapToInt(Gap::nominal).sum();
    tell(6, spool, way);
    return act(before, wrong);
  }

  int type(char character) {
    if (text.length() >= 50) {
      return FULL;
    }
    text += character;
    return text.length();
  }

  int clearText() {
    int length = text.length();
    text = "";
    return length;
  }

  private static final String NUMBER = "(0|[1-9][0-9]?)";
  private static final String[] FORMS = {
    "write " + NUMBER + " ([a-h]+)", "rewind " + NUMBER + " " + NUMBER, "cut " + NUMBER + " " + NUMBER,
    "splice " + NUMBER + " " + NUMBER, "close " + NUMBER, "punch " + NUMBER + " " + NUMBER
  };

  /** A place is at fault if no text of the form begins with what goes up to it, but all before do. */
  private int fault(String form) {
    for (int length = 0; length <= text.length(); length++) {
      Matcher matcher = Pattern.compile(form).matcher(text.substring(0, length));
      if (!matcher.matches() && !matcher.hitEnd()) {
        return length - 1;
      }
    }
    return Pattern.compile(form).matcher(text).matches() ? -1 : text.length();
  }

  int perform() {
    String word = Pattern.compile("^[a-z]*").matcher(text).results().findFirst().get().group();
    for (int kind = 0; kind < FORMS.length; kind++) {
      if (word.equals(FORMS[kind].substring(0, FORMS[kind].indexOf(' ')))) {
        int fault = fault(FORMS[kind]);
        return fault >= 0 ? -100 - fault : perform(kind);
      }
    }
    return -100;
  }

  private int perform(int kind) {
    String[] parts = text.split(" ");
    int first = Integer.parseInt(parts[1]);
    switch (kind) {
      case 0:
        return write(first, parts[2]);
      case 1:
        return rewind(first, Integer.parseInt(parts[2]), 1);
      case 2:
        return cut(first, Integer.parseInt(parts[2]));
      case 3:
        return splice(first, Integer.parseInt(parts[2]));
      case 4:
        return close(first);
      default:
        return punch(first, Integer.parseInt(parts[2]));
    }
  }

  private int write(int spool, String letters) {
    if (!in(spool, 0, 5)) {
      return UNKNOWN;
    }
    if (wires.get(spool) != null) {
      return NOT_POSSIBLE;
    }
    if (letters.length() > 30) {
      return FULL;
    }
    State before = state();
    List<Gap> gaps = letters.chars().mapToObj(c -> new Gap(0, 0, c - 'a').anew(c - 'a')).toList();
    Wire wire = new Wire(Gap.end(), gaps, Gap.end(), 0);
    wires.set(spool, wire);
    used += wire.all().stream().mapToInt(Gap::length).sum();
    tell(0, spool, letters.length());
    return act(before, letters.length());
  }

  int undo() {
    if (history.isEmpty()) {
      return NONE;
    }
    become(history.remove(history.size() - 1));
    return history.size();
  }

  private int present() {
    return (int) wires.stream().filter(wire -> wire != null).count();
  }

  int keep() {
    snapshot = state();
    return present();
  }

  int restore() {
    if (snapshot == null) {
      return NONE;
    }
    State before = state();
    become(snapshot);
    return act(before, present());
  }

  int spool(int spool, int what) {
    if (!in(spool, 0, 5)) {
      return UNKNOWN;
    }
    if (!in(what, 0, 6)) {
      return BAD;
    }
    Wire wire = wires.get(spool);
    if (wire == null) {
      return NOT_POSSIBLE;
    }
    int most = wire.all().stream().mapToInt(Model::thousandths).max().getAsInt();
    int[] told = {
      wire.letters().size(),
      wire.end() == null ? 0 : 1,
      wire.all().stream().mapToInt(Gap::length).sum(),
      wire.all().stream().mapToInt(Gap::nominal).sum(),
      wire.rewinds(),
      wire.all().stream().map(Model::thousandths).toList().indexOf(most),
      most
    };
    return told[what];
  }

  private static int thousandths(Gap gap) {
    return quotient(1000L * gap.length(), gap.nominal());
  }

  int gap(int spool, int gap, int what) {
    if (!in(spool, 0, 5) || !in(gap, 0, gapsOf(wires.get(spool)) - 1)) {
      return UNKNOWN;
    }
    if (!in(what, 0, 3)) {
      return BAD;
    }
    List<Gap> all = wires.get(spool).all();
    Gap one = all.get(gap);
    int truth = one.truth() < 0 ? NONE : one.truth() + 'a';
    return new int[] {one.length(), one.nominal(), truth, stretchBy(9, gap, all.size())}[what];
  }

  int read(int spool, int way, int letter) {
    if (!in(spool, 0, 5) || !in(letter, 0, lettersOf(wires.get(spool)) - 1)) {
      return UNKNOWN;
    }
    if (!in(way, 0, 2)) {
      return BAD;
    }
    Wire wire = wires.get(spool);
    if (way == 2 && wire.end() == null) {
      return NOT_POSSIBLE;
    }
    int number = readings(wire, way).get(letter);
    return number < 0 ? '?' : number + 'a';
  }

  int errors(int spool, int way, int what) {
    if (!in(spool, 0, 5)) {
      return UNKNOWN;
    }
    if (!in(way, 0, 2) || !in(what, 0, 2)) {
      return BAD;
    }
    Wire wire = wires.get(spool);
    if (wire == null || way == 2 && wire.end() == null) {
      return NOT_POSSIBLE;
    }
    if (what < 2) {
      return what == 0 ? misread(wire, way) : unread(wire, way);
    }
    List<Integer> numbers = readings(wire, way);
    for (int i = 0; i < numbers.size(); i++) {
      if (numbers.get(i) != wire.letters().get(i).truth()) {
        return i;
      }
    }
    return NONE;
  }

  int bestWay(int spool) {
    if (!in(spool, 0, 5)) {
      return UNKNOWN;
    }
    Wire wire = wires.get(spool);
    if (wire == null) {
      return NOT_POSSIBLE;
    }
    int best = 0;
    for (int way = 1; way <= (wire.end() == null ? 1 : 2); way++) {
      if (misread(wire, way) + unread(wire, way) < misread(wire, best) + unread(wire, best)) {
        best = way;
      }
    }
    return best;
  }

  int errorsAfter(int spool, int way, int pull, int times) {
    if (!in(spool, 0, 5)) {
      return UNKNOWN;
    }
    if (!in(way, 0, 1) || !in(pull, 0, 9) || !in(times, 0, 30)) {
      return BAD;
    }
    Wire wire = wires.get(spool);
    if (wire == null) {
      return NOT_POSSIBLE;
    }
    Wire then = wire;
    for (int time = 0; time < times && gapsOf(then) == gapsOf(wire); time++) {
      then = afterOne(then, pull);
    }
    if (then == null) {
      return wire.letters().size();
    }
    return misread(then, way) + unread(then, way) + lettersOf(wire) - lettersOf(then);
  }

  int safeRewinds(int spool, int way, int pull) {
    if (!in(spool, 0, 5)) {
      return UNKNOWN;
    }
    if (!in(way, 0, 1) || !in(pull, 0, 9)) {
      return BAD;
    }
    Wire wire = wires.get(spool);
    if (wire == null) {
      return NOT_POSSIBLE;
    }
    int safe = 0;
    Wire then = afterOne(wire, pull);
    while (safe < 30 && gapsOf(then) == gapsOf(wire) && readings(then, way).equals(readings(wire, way))) {
      safe++;
      then = afterOne(then, pull);
    }
    return safe;
  }

  int event(int back, int what) {
    if (back < 0 || !in(what, 0, 2)) {
      return BAD;
    }
    if (back >= log.size()) {
      return NONE;
    }
    Event event = log.get(back);
    return new int[] {event.kind(), event.spool(), event.number()}[what];
  }

  int count(int what) {
    if (!in(what, 0, 10)) {
      return BAD;
    }
    int letters = wires.stream().mapToInt(Model::lettersOf).sum();
    long[] told = {present(), letters, minutes, used, rewinds, breaks, lost, rule, limit, history.size(), text.length()};
    return Math.toIntExact(told[what]);
  }
}
