import java.util.NoSuchElementException;

/** What the document says ahead of its promises: limits of a hoard, of a sum, and of an object. */
final class TermsTest {
  private static final Class<IndexOutOfBoundsException> NO_PLACE = IndexOutOfBoundsException.class;
  private static final Class<IllegalArgumentException> NO_VALUE = IllegalArgumentException.class;
  private static final Class<IllegalStateException> NO_ROOM = IllegalStateException.class;
  private static final Class<NoSuchElementException> NONE = NoSuchElementException.class;

  private TermsTest() {
  }

  static void run() {
    numbersCanBeThereSeveralTimes();
    choicesAreSomeNoneOrAll();
    zeroIsAlwaysMade();
    aThrowChangesNoAnswer();
    theLastOf512CallsAnswers();
    theLastOf512CallsRefuses();
  }

  private static void numbersCanBeThereSeveralTimes() {
    Sumhoard x = Check.with(120, 120);
    Check.answers("terms: as choices of their own", 2L, () -> x.ways(0, 120, false));
    Check.answers("terms: as ways of their own", 3L, () -> x.ways(0, 240, true));
    Check.answers("terms: 20 times the same", 20L,
        () -> Check.with(Check.repeated(15, 20)).ways(0, 15, false));
  }

  private static void choicesAreSomeNoneOrAll() {
    Sumhoard x = Check.with(1, 2, 4, 8, 16, 32, 64, 120, 53);
    long together = 0;
    for (int sum = 0; sum <= 300; sum++) {
      together += x.ways(0, sum, false);
    }
    Check.same("terms: 2 to the power 9 choices", 512L, together);
    Sumhoard none = new Sumhoard();
    Check.answers("terms: one choice of none", 1.0, () -> none.meanWays(0));
  }

  private static void zeroIsAlwaysMade() {
    for (int number : new int[] {1, 2, 119, 120}) {
      Sumhoard x = Check.with(number);
      for (boolean often : new boolean[] {false, true}) {
        Check.answers("terms: 0 of " + number, true, () -> x.isSum(0, 0, often));
        Check.answers("terms: 0 of none", true, () -> x.isSum(1, 0, often));
      }
    }
  }

  /** Every answer that a hoard can give, in a text. */
  private static String answersOf(Sumhoard x) {
    StringBuilder text = new StringBuilder(Check.stateOf(x));
    for (int hoard = 0; hoard < 2; hoard++) {
      text.append(' ').append(x.total(hoard)).append(' ').append(x.sums(hoard, false));
      text.append(' ').append(x.sums(hoard, true)).append(' ').append(x.most(hoard));
      text.append(' ').append(x.fair(hoard)).append(' ').append(x.share(hoard));
      text.append(' ').append(x.meanWays(hoard)).append(' ').append(x.withMany(hoard, 2));
      text.append(' ').append(x.compare(hoard, 1 - hoard, '-'));
      text.append(' ').append(x.together(hoard, 1 - hoard, 21));
      text.append(' ').append(x.ways(hoard, 21, true)).append(' ').append(x.fewest(hoard, 0, true));
    }
    return text.append(x.isSound()).toString();
  }

  /** One refused call of each method that can change a hoard, and of each one that looks far. */
  private static void aThrowChangesNoAnswer() {
    Sumhoard x = Check.withBoth(new int[] {120, 100, 80}, Check.repeated(2, 20));
    String before = answersOf(x);
    Check.refuses("terms: add", NO_ROOM, x, () -> x.add(0, 1));
    Check.refuses("terms: insert", NO_ROOM, x, () -> x.insert(1, 0, 1));
    Check.refuses("terms: takeOut", NO_PLACE, x, () -> x.takeOut(0, 3));
    Check.refuses("terms: exchange", NO_ROOM, x, () -> x.exchange(0, 2, 81));
    Check.refuses("terms: move", NO_PLACE, x, () -> x.move(0, 0, 3));
    Check.refuses("terms: sort", NO_PLACE, x, () -> x.sort(2));
    Check.refuses("terms: clear", NO_PLACE, x, () -> x.clear(-1));
    Check.refuses("terms: join", NO_ROOM, x, () -> x.join(0, 1, 0));
    Check.refuses("terms: next", NONE, x, () -> x.next(1, 41, false));
    Check.refuses("terms: gap", NONE, x, () -> x.gap(0, 300, false));
    Check.refuses("terms: fewest", NONE, x, () -> x.fewest(0, 299, false));
    Check.refuses("terms: choice", NONE, x, () -> x.choice(0, 120, 1));
    Check.refuses("terms: partSums", NO_VALUE, x, () -> x.partSums(0, 8));
    Check.refuses("terms: compare", NO_VALUE, x, () -> x.compare(0, 1, '+'));
    Check.refuses("terms: isAll", NO_ROOM, x, () -> x.isAll(1, 511));
    Check.same("terms: no answer is another one then", before, answersOf(x));
  }

  private static void theLastOf512CallsAnswers() {
    Sumhoard x = new Sumhoard();
    int calls = 0;
    while (calls + 2 <= 510) {
      x.add(0, 1 + calls / 2 % 120);
      x.takeOut(0, 0);
      calls += 2;
    }
    x.add(0, 7);
    Check.answers("terms: call 512", 4, () -> x.add(0, 120));
  }

  private static void theLastOf512CallsRefuses() {
    Sumhoard x = new Sumhoard();
    for (int call = 1; call < 512; call++) {
      x.isSound();
    }
    Check.answers("terms: call 512 refuses", "throws " + NO_VALUE.getName(), () -> x.add(0, 121));
  }
}
