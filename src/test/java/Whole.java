import java.util.function.Supplier;
import java.util.function.ToIntFunction;

/**
 * All that can be asked of an object: its sums, log, wires, what performing the text does, what undoing
 * again and again brings back, and what the snapshot holds. A new object is made for each part, as one
 * is used for at most 512 calls.
 */
final class Whole {
  private final Supplier<StretchSpool> maker;
  private final String told;

  Whole(Supplier<StretchSpool> maker) {
    this.maker = maker;
    told = all(maker);
  }

  /** The call is answered so, and changes nothing. */
  void refuses(String call, ToIntFunction<StretchSpool> asked, int due) {
    Due.is(call, asked.applyAsInt(maker.get()), due);
    String then = all(() -> {
      StretchSpool x = maker.get();
      asked.applyAsInt(x);
      return x;
    });
    Due.holds(call + " changes nothing", told.equals(then));
  }

  private static String all(Supplier<StretchSpool> maker) {
    StringBuilder all = new StringBuilder(now(maker));
    for (int undone = 1; undone <= 4; undone++) {
      int times = undone;
      all.append("\nundone: ").append(now(() -> {
        StretchSpool x = maker.get();
        for (int time = 0; time < times; time++) {
          x.undo();
        }
        return x;
      }));
    }
    all.append("\nrestored: ").append(maker.get().restore()).append(' ').append(now(() -> {
      StretchSpool x = maker.get();
      x.restore();
      return x;
    }));
    all.append("\nperformed: ").append(maker.get().perform()).append(' ').append(now(() -> {
      StretchSpool x = maker.get();
      x.perform();
      return x;
    }));
    return all.toString();
  }

  /** All but the history, the text and the snapshot. */
  static String state(Supplier<StretchSpool> maker) {
    StringBuilder told = new StringBuilder();
    StretchSpool x = maker.get();
    for (int what = 0; what <= 8; what++) {
      told.append(x.count(what)).append(' ');
    }
    for (int back = 0; back <= 10; back++) {
      for (int what = 0; what <= 2; what++) {
        told.append(x.event(back, what)).append(what < 2 ? '/' : ' ');
      }
    }
    for (int spool = 0; spool < 6; spool++) {
      told.append('\n').append(wire(maker.get(), spool));
    }
    return told.toString();
  }

  private static String now(Supplier<StretchSpool> maker) {
    StretchSpool x = maker.get();
    return x.count(9) + " " + x.count(10) + " " + state(maker);
  }

  private static String wire(StretchSpool x, int spool) {
    StringBuilder told = new StringBuilder();
    for (int what = 0; what <= 6; what++) {
      told.append(x.spool(spool, what)).append(' ');
    }
    int gaps = Made.gaps(x, spool);
    for (int gap = 0; gap < gaps; gap++) {
      for (int what = 0; what <= 3; what++) {
        told.append(x.gap(spool, gap, what)).append(what < 3 ? '/' : ' ');
      }
    }
    return told.toString();
  }
}
