import java.util.Arrays;

/** Promises 33 to 38. The theorem holds, so that 33 to 37 answer true wherever they do not throw. */
final class TheoremTest {
  private static final Class<IndexOutOfBoundsException> NO_PLACE = IndexOutOfBoundsException.class;
  private static final Class<IllegalArgumentException> NO_VALUE = IllegalArgumentException.class;
  private static final Class<IllegalStateException> TOO_MANY = IllegalStateException.class;
  private static final int[] WRONG_HOARDS = {-1, 2, Integer.MIN_VALUE, Integer.MAX_VALUE};
  private static final int ALL_20 = (1 << 20) - 1;
  private static final int[][] HOARDS = {
    {}, {1}, {120}, {3, 5, 5, 8}, {120, 120, 60}, {120, 120, 59}, {1, 2, 4, 8, 16, 32, 64, 120, 53},
    Check.repeated(1, 20), Check.repeated(15, 20), {119, 1, 118, 2, 60},
    {1, 2, 3, 4, 5, 6, 7, 8, 9, 10, 11, 12, 13, 14, 15, 16, 17, 18, 19, 20}
  };

  private TheoremTest() {
  }

  static void run() {
    for (int[] numbers : HOARDS) {
      holdsOf(Check.with(numbers));
      holdsOfSome(numbers);
    }
    holdsOfOneObject();
    promise33IsPartedWrong();
    promise34IsAllWrong();
    promise35IsLeftWrong();
    promise36IsOftenAlikeWrong();
    promise37IsSoundOfBoth();
    promise38ChecksumOfNone();
    promise38Checksum();
    promise38ChecksumOfFull();
  }

  /** Rows that are used again must not keep what an earlier hoard left in them. */
  private static void holdsOfOneObject() {
    Sumhoard x = new Sumhoard();
    for (int[] numbers : HOARDS) {
      x.clear(0);
      for (int number : numbers) {
        x.add(0, number);
      }
      int all = (1 << numbers.length) - 1;
      String again = Arrays.toString(numbers) + ", used again";
      playChoice(x, all & 0x55555, again);
      playChoice(x, all & 0xff, again);
      for (int place = 0; place < numbers.length; place += 3) {
        int told = place;
        Check.answers("35: " + again, true, () -> x.isLeft(0, told));
      }
      Check.answers("36: " + again, true, () -> x.isOftenAlike(0));
      Check.answers("37: " + again, true, () -> x.isSound());
    }
  }

  private static void holdsOf(Sumhoard x) {
    String before = Check.stateOf(x);
    for (int place = 0; place < x.size(0); place++) {
      int told = place;
      Check.answers("35: " + before + " place " + place, true, () -> x.isLeft(0, told));
    }
    Check.answers("36: " + before, true, () -> x.isOftenAlike(0));
    Check.answers("37: " + before, true, () -> x.isSound());
    Check.same("35 to 37: nothing is changed", before, Check.stateOf(x));
  }

  private static void holdsOfSome(int[] numbers) {
    int end = 1 << numbers.length;
    int step = Math.max(1, end / 61);
    for (int choice = 0; choice < end; choice += step) {
      Sumhoard x = Check.with(numbers);
      String before = Check.stateOf(x);
      playChoice(x, choice, before);
      playChoice(x, end - 1 - choice, before);
      Check.same("33, 34: nothing is changed", before, Check.stateOf(x));
    }
  }

  private static void playChoice(Sumhoard x, int choice, String of) {
    String told = of + " choice " + choice;
    Check.answers("33: " + told, true, () -> x.isParted(0, choice));
    if (Integer.bitCount(choice) <= 8) {
      Check.answers("34: " + told, true, () -> x.isAll(0, choice));
    } else {
      Check.refuses("34: " + told, TOO_MANY, x, () -> x.isAll(0, choice));
    }
  }

  private static void promise33IsPartedWrong() {
    Sumhoard x = Check.withBoth(new int[] {3, 5, 5, 8}, Check.repeated(15, 20));
    for (int wrong : new int[] {-1, 16, Integer.MIN_VALUE, Integer.MAX_VALUE}) {
      Check.refuses("33: choice " + wrong, NO_VALUE, x, () -> x.isParted(0, wrong));
    }
    Check.refuses("33: place 20", NO_VALUE, x, () -> x.isParted(1, ALL_20 + 1));
    Check.refuses("33: 1 of none", NO_VALUE, x, () -> new Sumhoard().isParted(0, 1));
    for (int wrong : WRONG_HOARDS) {
      Check.refuses("33: hoard " + wrong, NO_PLACE, x, () -> x.isParted(wrong, -1));
    }
  }

  private static void promise34IsAllWrong() {
    Sumhoard x = Check.withBoth(new int[] {3, 5, 5, 8}, Check.repeated(15, 20));
    for (int wrong : new int[] {-1, 16, 511, Integer.MIN_VALUE, Integer.MAX_VALUE}) {
      Check.refuses("34: choice " + wrong, NO_VALUE, x, () -> x.isAll(0, wrong));
    }
    Check.refuses("34: 9 places", TOO_MANY, x, () -> x.isAll(1, 511));
    Check.refuses("34: 9 other places", TOO_MANY, x, () -> x.isAll(1, 511 << 11));
    Check.refuses("34: 20 places", TOO_MANY, x, () -> x.isAll(1, ALL_20));
    Check.answers("34: 8 places", true, () -> x.isAll(1, 255));
    Check.answers("34: 8 other places", true, () -> x.isAll(1, 255 << 12));
    Check.refuses("34: place 20", NO_VALUE, x, () -> x.isAll(1, ALL_20 + 1));
    for (int wrong : WRONG_HOARDS) {
      Check.refuses("34: hoard " + wrong, NO_PLACE, x, () -> x.isAll(wrong, -1));
    }
  }

  private static void promise35IsLeftWrong() {
    Sumhoard x = Check.with(3, 5, 5, 8);
    for (int wrong : new int[] {-1, 4, 19, 20, Integer.MIN_VALUE, Integer.MAX_VALUE}) {
      Check.refuses("35: place " + wrong, NO_PLACE, x, () -> x.isLeft(0, wrong));
    }
    Check.refuses("35: a hoard without numbers", NO_PLACE, x, () -> x.isLeft(1, 0));
    for (int wrong : WRONG_HOARDS) {
      Check.refuses("35: hoard " + wrong, NO_PLACE, x, () -> x.isLeft(wrong, 0));
    }
  }

  private static void promise36IsOftenAlikeWrong() {
    Sumhoard x = Check.with(3, 5, 5, 8);
    Check.answers("36: hoard 1", true, () -> x.isOftenAlike(1));
    for (int wrong : WRONG_HOARDS) {
      Check.refuses("36: hoard " + wrong, NO_PLACE, x, () -> x.isOftenAlike(wrong));
    }
  }

  private static void promise37IsSoundOfBoth() {
    Check.answers("37: new", true, () -> new Sumhoard().isSound());
    Check.answers("37: the second alone", true,
        () -> Check.withBoth(new int[0], new int[] {7, 11, 120}).isSound());
    Check.answers("37: both", true,
        () -> Check.withBoth(Check.repeated(15, 20), new int[] {120, 60, 120}).isSound());
  }

  private static long plus(long check, long... more) {
    long sum = check;
    for (long one : more) {
      sum = 31 * sum + one;
    }
    return sum;
  }

  private static long plusWays(long check, int[][] ways) {
    long[] all = new long[301];
    for (int[] one : ways) {
      all[one[0]] = one[1];
    }
    return plus(check, all);
  }

  private static void promise38ChecksumOfNone() {
    long due = plusWays(plus(7, 0), new int[][] {{0, 1}});
    due = plusWays(plus(due, 0), new int[][] {{0, 1}});
    Check.answers("38: new", due, () -> new Sumhoard().checksum());
  }

  private static void promise38Checksum() {
    long due = plusWays(plus(7, 3, 5, 2, 3), new int[][] {{0, 1}, {2, 1}, {3, 1}, {5, 2}, {7, 1}, {8, 1}, {10, 1}});
    due = plusWays(plus(due, 2, 4, 4), new int[][] {{0, 1}, {4, 2}, {8, 1}});
    Check.answers("38: 5, 2, 3 and 4, 4", due,
        () -> Check.withBoth(new int[] {5, 2, 3}, new int[] {4, 4}).checksum());
    Check.answers("38: the places count", false,
        () -> Check.withBoth(new int[] {2, 5, 3}, new int[] {4, 4}).checksum()
            == Check.withBoth(new int[] {5, 2, 3}, new int[] {4, 4}).checksum());
    Check.answers("38: 3, 5, 5, 8", -2440365390006666657L, () -> Check.with(3, 5, 5, 8).checksum());
  }

  private static void promise38ChecksumOfFull() {
    long due = plusWays(plus(7, 0), new int[][] {{0, 1}});
    due = plusWays(plus(due, 3, 120, 60, 120),
        new int[][] {{0, 1}, {60, 1}, {120, 2}, {180, 2}, {240, 1}, {300, 1}});
    Check.answers("38: 300 together", due,
        () -> Check.withBoth(new int[0], new int[] {120, 60, 120}).checksum());
  }
}
