/** Promises 30 to 32, with answers worked out by hand. */
final class TwoHoardsTest {
  private static final Class<IndexOutOfBoundsException> NO_PLACE = IndexOutOfBoundsException.class;
  private static final Class<IllegalArgumentException> NO_VALUE = IllegalArgumentException.class;
  private static final int[] WRONG_HOARDS = {-1, 2, Integer.MIN_VALUE, Integer.MAX_VALUE};

  private TwoHoardsTest() {
  }

  static void run() {
    promise30Compare();
    promise30CompareWrong();
    promise31IsLike();
    promise32Together();
    promise32TogetherWrong();
  }

  /** The first makes 0, 4, 9, 13; the second 0, 5, 8, 13, 18, 21, 26. */
  private static Sumhoard pair() {
    return Check.withBoth(new int[] {4, 9}, new int[] {5, 8, 13});
  }

  private static void promise30Compare() {
    Sumhoard x = pair();
    Check.answers("30: both", 2, () -> x.compare(0, 1, '&'));
    Check.answers("30: one or both", 9, () -> x.compare(0, 1, '|'));
    Check.answers("30: just one", 7, () -> x.compare(0, 1, '^'));
    Check.answers("30: the first alone", 2, () -> x.compare(0, 1, '-'));
    Check.answers("30: the second alone", 5, () -> x.compare(1, 0, '-'));
    Check.answers("30: both, turned", 2, () -> x.compare(1, 0, '&'));
    Check.answers("30: itself &", 7, () -> x.compare(1, 1, '&'));
    Check.answers("30: itself |", 7, () -> x.compare(1, 1, '|'));
    Check.answers("30: itself ^", 0, () -> x.compare(1, 1, '^'));
    Check.answers("30: itself -", 0, () -> x.compare(0, 0, '-'));
    Sumhoard none = new Sumhoard();
    Check.answers("30: none and none", 1, () -> none.compare(0, 1, '|'));
    Sumhoard heavy = Check.withBoth(new int[] {120, 120, 60}, Check.repeated(15, 20));
    Check.answers("30: 300 both", 6, () -> heavy.compare(0, 1, '&'));
    Check.answers("30: 300 in one alone", 15, () -> heavy.compare(1, 0, '-'));
  }

  private static void promise30CompareWrong() {
    Sumhoard x = pair();
    char[] signs = {'+', '~', ' ', 'a', (char) 0, (char) 65535, (char) (256 + '&'), (char) (256 + '-')};
    for (char wrong : signs) {
      Check.refuses("30: sign " + (int) wrong, NO_VALUE, x, () -> x.compare(0, 1, wrong));
    }
    for (int wrong : WRONG_HOARDS) {
      Check.refuses("30: hoard " + wrong, NO_PLACE, x, () -> x.compare(wrong, 1, '+'));
      Check.refuses("30: other " + wrong, NO_PLACE, x, () -> x.compare(0, wrong, '+'));
    }
  }

  private static void promise31IsLike() {
    Sumhoard x = pair();
    Check.answers("31: unlike", false, () -> x.isLike(0, 1));
    Check.answers("31: like itself", true, () -> x.isLike(1, 1));
    Check.answers("31: none and none", true, () -> new Sumhoard().isLike(0, 1));
    Check.answers("31: other numbers, the same sums", true,
        () -> Check.withBoth(new int[] {1, 2}, new int[] {1, 1, 1}).isLike(1, 0));
    Check.answers("31: as many, but others", false,
        () -> Check.withBoth(new int[] {1}, new int[] {2}).isLike(0, 1));
    Check.answers("31: the same total", false,
        () -> Check.withBoth(new int[] {1, 1}, new int[] {2}).isLike(0, 1));
    Check.answers("31: 300 and 299", false,
        () -> Check.withBoth(new int[] {120, 120, 60}, new int[] {120, 120, 59}).isLike(0, 1));
    Check.answers("31: 300 in another order", true,
        () -> Check.withBoth(new int[] {120, 120, 60}, new int[] {60, 120, 120}).isLike(0, 1));
    for (int wrong : WRONG_HOARDS) {
      Check.refuses("31: hoard " + wrong, NO_PLACE, x, () -> x.isLike(wrong, 1));
      Check.refuses("31: other " + wrong, NO_PLACE, x, () -> x.isLike(0, wrong));
    }
  }

  private static void promise32Together() {
    Sumhoard x = pair();
    int[][] due = {{0, 1}, {1, 0}, {4, 1}, {9, 2}, {13, 2}, {17, 2}, {18, 2}, {22, 2}, {26, 2}, {21, 2}, {39, 1}, {40, 0}};
    for (int[] one : due) {
      Check.answers("32: pairs of " + one[0], one[1], () -> x.together(0, 1, one[0]));
      Check.answers("32: turned, of " + one[0], one[1], () -> x.together(1, 0, one[0]));
    }
    Check.answers("32: with itself 13", 4, () -> x.together(1, 1, 13));
    Check.answers("32: with itself 4", 2, () -> x.together(0, 0, 4));
    Check.answers("32: with itself 8", 1, () -> x.together(0, 0, 8));
    Check.answers("32: 300 of none", 0, () -> new Sumhoard().together(0, 1, 300));
    Check.answers("32: 0 of none", 1, () -> new Sumhoard().together(0, 1, 0));
    Sumhoard heavy = Check.withBoth(new int[] {120, 120, 60}, new int[] {60});
    Check.answers("32: heavy with itself 300", 6, () -> heavy.together(0, 0, 300));
    Check.answers("32: heavy with itself 60", 2, () -> heavy.together(0, 0, 60));
    Check.answers("32: heavy with itself 0", 1, () -> heavy.together(0, 0, 0));
    Check.answers("32: heavy and light 300", 2, () -> heavy.together(0, 1, 300));
    Check.answers("32: light and heavy 300", 2, () -> heavy.together(1, 0, 300));
  }

  private static void promise32TogetherWrong() {
    Sumhoard x = pair();
    for (int wrong : new int[] {-1, 301, Integer.MIN_VALUE, Integer.MAX_VALUE}) {
      Check.refuses("32: sum " + wrong, NO_VALUE, x, () -> x.together(0, 1, wrong));
    }
    for (int wrong : WRONG_HOARDS) {
      Check.refuses("32: hoard " + wrong, NO_PLACE, x, () -> x.together(wrong, 1, 301));
      Check.refuses("32: other " + wrong, NO_PLACE, x, () -> x.together(0, wrong, 301));
    }
  }
}
