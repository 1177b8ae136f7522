/** Promise 23: count. */
public final class Promise23CountTest {
  public static void main(String[] args) {
    StretchSpool x = new StretchSpool();
    tells(x, new int[] {0, 0, 0, 0, 0, 0, 0, 0, 130, 0, 0});
    Due.perform(x, "write 0 abcdefgh");
    tells(x, new int[] {1, 8, 0, 54000, 0, 0, 0, 0, 130, 1, 16});
    Due.perform(x, "write 5 aa");
    tells(x, new int[] {2, 10, 0, 68000, 0, 0, 0, 0, 130, 2, 10});
    x.rewind(5, 7, 3);
    tells(x, new int[] {2, 10, 9, 68000, 3, 0, 0, 0, 130, 3, 10});
    x.setRule(1);
    tells(x, new int[] {2, 10, 9, 68000, 3, 0, 0, 1, 130, 4, 10});
    x.setLimit(101);
    tells(x, new int[] {2, 10, 9, 68000, 3, 0, 0, 1, 101, 4, 10});
    x.rewind(0, 6, 30);
    tells(x, new int[] {2, 6, 13, 68000, 4, 1, 4, 1, 101, 4, 10});
    x.clearText();
    x.cut(0, 1);
    tells(x, new int[] {3, 6, 13, 73000, 4, 1, 4, 1, 101, 4, 0});
    x.close(1);
    tells(x, new int[] {3, 6, 13, 78000, 4, 1, 4, 1, 101, 4, 0});
    x.splice(0, 1);
    tells(x, new int[] {2, 6, 13, 78000, 4, 1, 4, 1, 101, 4, 0});
    x.punch(0, 2);
    tells(x, new int[] {2, 6, 13, 102000, 4, 1, 4, 1, 101, 4, 0});
    x.rewind(5, 0, 1);
    Due.is("the second break is at the beginning", x.spool(5, 0), StretchSpool.NOT_POSSIBLE);
    tells(x, new int[] {1, 4, 23, 102000, 5, 2, 6, 1, 101, 4, 0});
    x.undo();
    tells(x, new int[] {2, 6, 13, 102000, 4, 1, 4, 1, 101, 3, 0});
    Due.is("count(-1)", x.count(-1), StretchSpool.BAD_VALUE);
    Due.is("count(11)", x.count(11), StretchSpool.BAD_VALUE);
    Due.is("count(least)", x.count(Integer.MIN_VALUE), StretchSpool.BAD_VALUE);
    Due.is("count(most)", x.count(Integer.MAX_VALUE), StretchSpool.BAD_VALUE);
    Due.end();
  }

  private static void tells(StretchSpool x, int[] due) {
    for (int what = 0; what < due.length; what++) {
      Due.is("count(" + what + ")", x.count(what), due[what]);
    }
  }
}
