import java.lang.reflect.Field;

/**
 * Promises 33 to 37 answer true for every hoard that the face lets be. To see that they do look,
 * a hoard is given here, behind the face's back, numbers for which the theorem does not hold.
 */
final class PlaysTest {
  private static final String[] HOARDS = {"first", "second"};

  private PlaysTest() {
  }

  static void run() {
    try {
      for (int hoard = 0; hoard < 2; hoard++) {
        playsAnswerFalse(hoard);
        oftenRowIsCut(hoard);
      }
    } catch (ReflectiveOperationException e) {
      Check.same("33 to 37: the private names of this test", "as they are in Sumhoard", e.toString());
    }
  }

  private static void playsAnswerFalse(int hoard) throws ReflectiveOperationException {
    // 310 has a bit in the shift row, as its last word ends behind it, but none in the set row.
    Check.answers("33: joins its parts", false, of(hoard, 310, x -> x.isParted(hoard, 0)));
    // All together are more than the rows have, so that one choice is missing in them.
    Check.answers("34: counts its choices", false, of(hoard, 200, x -> x.isAll(hoard, 3)));
    Check.answers("37: counts its choices", false, of(hoard, 200, x -> x.isSound()));
    // A number of 0 leaves no count of s - n that is found already.
    Check.answers("35: takes its number out", false, of(hoard, 0, x -> x.isLeft(hoard, 0)));
    for (int right : new int[] {1, 120, 150}) {
      Check.answers("33: " + right + " is right", true, of(hoard, right, x -> x.isParted(hoard, 0)));
      Check.answers("34: " + right + " is right", true, of(hoard, right, x -> x.isAll(hoard, 3)));
      Check.answers("35: " + right + " is right", true, of(hoard, right, x -> x.isLeft(hoard, 0)));
      Check.answers("37: " + right + " is right", true, of(hoard, right, x -> x.isSound()));
    }
  }

  interface Play {
    Object answer(Sumhoard x);
  }

  /** The play's answer for a hoard that has this number twice. */
  private static Check.Call of(int hoard, int number, Play play) throws ReflectiveOperationException {
    Sumhoard x = new Sumhoard();
    x.add(hoard, 1);
    x.add(hoard, 1);
    int[] numbers = (int[]) inside(inside(x, HOARDS[hoard]), "numbers");
    numbers[0] = number;
    numbers[1] = number;
    return () -> play.answer(x);
  }

  private static void oftenRowIsCut(int hoard) throws ReflectiveOperationException {
    Sumhoard x = new Sumhoard();
    x.add(hoard, 7);
    Check.answers("36: the row as it is", true, () -> x.isOftenAlike(hoard));
    Object shifts = inside(inside(x, "theorem"), "shifts");
    long[] everySum = (long[]) inside(inside(shifts, "everySum"), "words");
    // Sum 7 is cut away, too.
    everySum[0] &= ~(1L << 7);
    Check.answers("36: compares its rows", false, () -> x.isOftenAlike(hoard));
  }

  private static Object inside(Object of, String name) throws ReflectiveOperationException {
    Field field = of.getClass().getDeclaredField(name);
    field.setAccessible(true);
    return field.get(of);
  }
}
