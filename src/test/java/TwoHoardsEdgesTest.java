/** Promises 30 to 32 at their edges: no numbers, one hoard told twice, 0 and 300 together. */
final class TwoHoardsEdgesTest {
  private TwoHoardsEdgesTest() {
  }

  static void run() {
    promise30OfNone();
    promise30OfTheSame();
    promise30Upto300();
    promise31TheSameSums();
    promise32OfNone();
    promise32BelowAndAboveTheSecondOne();
    promise32At300();
  }

  private static int[] comparedBy(Sumhoard x, int hoard, int other) {
    return new int[] {
      x.compare(hoard, other, '&'), x.compare(hoard, other, '|'),
      x.compare(hoard, other, '^'), x.compare(hoard, other, '-')
    };
  }

  private static void compares(String what, Sumhoard x, int hoard, int other, int... due) {
    Check.same("30: " + what + ", as & | ^ -", java.util.Arrays.toString(due),
        java.util.Arrays.toString(comparedBy(x, hoard, other)));
  }

  private static void promise30OfNone() {
    compares("none and none", new Sumhoard(), 0, 1, 1, 1, 0, 0);
    Sumhoard x = Check.with(Check.repeated(15, 20));
    compares("some and none", x, 0, 1, 1, 21, 20, 20);
    compares("none and some", x, 1, 0, 1, 21, 20, 0);
  }

  private static void promise30OfTheSame() {
    Sumhoard x = Check.withBoth(new int[] {120, 120, 60}, new int[] {60, 120, 120});
    compares("itself", x, 0, 0, 6, 6, 0, 0);
    compares("itself, hoard 1", x, 1, 1, 6, 6, 0, 0);
    compares("like ones", x, 0, 1, 6, 6, 0, 0);
  }

  private static void promise30Upto300() {
    Sumhoard x = Check.withBoth(new int[] {120, 120, 60}, new int[] {120, 120, 59});
    compares("300 and 299", x, 0, 1, 3, 9, 6, 3);
    Sumhoard all = Check.withBoth(new int[] {1, 2, 4, 8, 16, 32, 64, 120, 53}, new int[] {1});
    compares("all 301 and two", all, 0, 1, 2, 301, 299, 299);
    compares("two and all 301", all, 1, 0, 2, 301, 299, 0);
  }

  private static void promise31TheSameSums() {
    Check.answers("31: none and none", true, () -> new Sumhoard().isLike(0, 1));
    Check.answers("31: none and itself", true, () -> new Sumhoard().isLike(1, 1));
    Sumhoard x = Check.with(1);
    Check.answers("31: one and none", false, () -> x.isLike(0, 1));
    Check.answers("31: none and one", false, () -> x.isLike(1, 0));
    Check.answers("31: all 301 by other numbers", true,
        () -> Check.withBoth(new int[] {1, 2, 4, 8, 16, 32, 64, 120, 53},
            new int[] {1, 2, 4, 8, 16, 32, 64, 113, 60}).isLike(0, 1));
    Check.answers("31: 300 alone is missing", false,
        () -> Check.withBoth(new int[] {1, 2, 4, 8, 16, 32, 64, 120, 53},
            new int[] {1, 2, 4, 8, 16, 32, 64, 120, 52}).isLike(0, 1));
    Check.answers("31: the same once, not in as many ways", true,
        () -> Check.withBoth(new int[] {1, 1, 1}, new int[] {1, 2}).isLike(0, 1));
  }

  private static void promise32OfNone() {
    Sumhoard none = new Sumhoard();
    Check.answers("32: none and none, 0", 1, () -> none.together(0, 1, 0));
    Check.answers("32: none and none, 1", 0, () -> none.together(0, 1, 1));
    Check.answers("32: none and none, 300", 0, () -> none.together(1, 1, 300));
    Sumhoard x = Check.with(120);
    for (int first = 0; first < 2; first++) {
      int told = first;
      Check.answers("32: 120 and none, 0", 1, () -> x.together(told, 1 - told, 0));
      Check.answers("32: 120 and none, 119", 0, () -> x.together(told, 1 - told, 119));
      Check.answers("32: 120 and none, 120", 1, () -> x.together(told, 1 - told, 120));
      Check.answers("32: 120 and none, 121", 0, () -> x.together(told, 1 - told, 121));
    }
  }

  /** The theorem's (7) shifts to the left or to the right, by which one is the greater. */
  private static void promise32BelowAndAboveTheSecondOne() {
    Sumhoard x = Check.withBoth(new int[] {1, 1, 1}, new int[] {100, 64});
    int[][] due = {{63, 0}, {64, 1}, {67, 1}, {68, 0}, {100, 1}, {163, 0}, {164, 1}, {165, 1},
        {167, 1}, {168, 0}, {300, 0}};
    for (int[] one : due) {
      Check.answers("32: " + one[0], one[1], () -> x.together(0, 1, one[0]));
      Check.answers("32: " + one[0] + ", turned", one[1], () -> x.together(1, 0, one[0]));
    }
  }

  private static void promise32At300() {
    Sumhoard x = Check.withBoth(new int[] {1, 2, 4, 8, 16, 32, 64, 120, 53}, Check.repeated(15, 20));
    Check.answers("32: all 301 with themselves, 300", 301, () -> x.together(0, 0, 300));
    Check.answers("32: all 301 with themselves, 299", 300, () -> x.together(0, 0, 299));
    Check.answers("32: all 301 with themselves, 0", 1, () -> x.together(0, 0, 0));
    Check.answers("32: all 301 with 21, 300", 21, () -> x.together(0, 1, 300));
    Check.answers("32: 21 with all 301, 299", 20, () -> x.together(1, 0, 299));
    Check.answers("32: the last of both is 600", 21, () -> x.together(1, 1, 300));
  }
}
