import java.util.Objects;

/** Counts and prints what does not answer as is due. */
final class Check {
  interface Call {
    Object answer();
  }

  private static int passed;
  private static int failed;

  private Check() {
  }

  static void same(String what, Object due, Object got) {
    if (Objects.equals(due, got)) {
      passed++;
    } else {
      failed++;
      System.out.println(what + " answered " + got + ", due is " + due);
    }
  }

  static void answers(String what, Object due, Call call) {
    same(what, due, outcomeOf(call));
  }

  /**
   * The call throws just this exception, and leaves both hoards as they were. The checksum, which
   * has all of both, tells it in two calls: an object is promised for 512 calls alone.
   */
  static void refuses(String what, Class<? extends RuntimeException> due, Sumhoard x, Call call) {
    long before = x.checksum();
    same(what, "throws " + due.getName(), outcomeOf(call));
    same(what + ", the state behind it", before, x.checksum());
  }

  /** The call answers; what it answers is the matter of another test. */
  static void taken(String what, Call call) {
    Object got = outcomeOf(call);
    boolean isRefused = got instanceof String text && text.startsWith("throws ");
    same(what + " is taken, not " + got, false, isRefused);
  }

  /** The answer, or the text "throws " and the exception's name. */
  static Object outcomeOf(Call call) {
    try {
      return call.answer();
    } catch (RuntimeException e) {
      return "throws " + e.getClass().getName();
    }
  }

  static String stateOf(Sumhoard x) {
    return numbersOf(x, 0) + " " + numbersOf(x, 1) + " " + x.checksum();
  }

  static String numbersOf(Sumhoard x, int hoard) {
    StringBuilder text = new StringBuilder();
    for (int place = 0; place < x.size(hoard); place++) {
      text.append(place == 0 ? "" : ",").append(x.number(hoard, place));
    }
    return text.toString();
  }

  static int[] repeated(int number, int times) {
    int[] numbers = new int[times];
    java.util.Arrays.fill(numbers, number);
    return numbers;
  }

  /** A new object with these numbers in hoard 0. */
  static Sumhoard with(int... numbers) {
    return withBoth(numbers, new int[0]);
  }

  static Sumhoard withBoth(int[] first, int[] second) {
    Sumhoard x = new Sumhoard();
    for (int number : first) {
      x.add(0, number);
    }
    for (int number : second) {
      x.add(1, number);
    }
    return x;
  }

  static int close() {
    System.out.println(passed + " passed, " + failed + " failed");
    return failed == 0 && passed > 0 ? 0 : 1;
  }
}
