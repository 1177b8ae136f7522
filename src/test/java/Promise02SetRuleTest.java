/** Promise 2: setRule. */
public final class Promise02SetRuleTest {
  public static void main(String[] args) {
    StretchSpool x = Due.with("abh");
    Due.is("setRule(0), so already", x.setRule(0), StretchSpool.NONE);
    Due.is("setRule(-1)", x.setRule(-1), StretchSpool.BAD_VALUE);
    Due.is("setRule(3)", x.setRule(3), StretchSpool.BAD_VALUE);
    Due.is("setRule(least)", x.setRule(Integer.MIN_VALUE), StretchSpool.BAD_VALUE);
    Due.is("none of these is recorded", x.count(9), 1);
    stretches(x, new int[] {324, 324, 324, 324, 324});
    Due.is("setRule(1)", x.setRule(1), 0);
    stretches(x, new int[] {162, 171, 180, 189, 198});
    Due.is("setRule(2)", x.setRule(2), 1);
    stretches(x, new int[] {198, 189, 180, 171, 162});
    Due.is("the rule", x.count(7), 2);
    Due.is("setRule(2), so already", x.setRule(2), StretchSpool.NONE);
    Due.is("both are recorded", x.count(9), 3);
    Due.is("setRule(0)", x.setRule(0), 2);
    Due.is("undo()", x.undo(), 3);
    Due.is("the rule is back", x.count(7), 2);
    Due.is("no event", x.event(1, 0), StretchSpool.NONE);

    lengths(0, new int[] {5162, 2064, 3097, 9291, 5162});
    lengths(1, new int[] {5081, 2034, 3054, 9170, 5099});
    lengths(2, new int[] {5099, 2037, 3054, 9153, 5081});
    Due.end();
  }

  private static void stretches(StretchSpool x, int[] due) {
    for (int gap = 0; gap < due.length; gap++) {
      Due.is("stretch of gap " + gap + " by rule " + x.count(7), x.gap(0, gap, 3), due[gap]);
    }
  }

  private static void lengths(int rule, int[] due) {
    StretchSpool x = Due.with("abh");
    x.setRule(rule);
    x.rewind(0, 9, 1);
    for (int gap = 0; gap < due.length; gap++) {
      Due.is("length of gap " + gap + " by rule " + rule, x.gap(0, gap, 0), due[gap]);
    }
  }
}
