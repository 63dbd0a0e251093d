import java.math.BigInteger;
import java.util.NoSuchElementException;

/** Promises 13 to 25 at their edges, sentence by sentence: 0 and 300, all and none, going round. */
final class SumsEdgesTest {
  private static final Class<NoSuchElementException> NONE = NoSuchElementException.class;

  private SumsEdgesTest() {
  }

  static void run() {
    promise13TellsWhetherItIsMade();
    promise14UpTo300();
    promise15NotBelow();
    promise15ThrowsIfNoneIsMade();
    promise16NotAbove();
    promise17NotBelow();
    promise17ThrowsIfAllAreMade();
    promise18TheGreatest();
    promise18ThrowsIfAllAreMade();
    promise19NoneIfItIsNotMade();
    promise19GoesRound();
    promise20TheLeastOne();
    promise21EachAsOftenAsTaken();
    promise21ThrowsIfItIsNotMade();
    promise22SoManyPlaces();
    promise23TheLeastDifference();
    promise24Share();
    promise25MeanWays();
  }

  private static Sumhoard dense() {
    return Check.with(1, 2, 4, 8, 16, 32, 64, 120, 53);
  }

  private static Sumhoard ones(int many) {
    return Check.with(Check.repeated(1, many));
  }

  private static void promise13TellsWhetherItIsMade() {
    Sumhoard x = Check.withBoth(new int[] {120, 120, 60}, new int[] {60, 60});
    for (boolean often : new boolean[] {false, true}) {
      Check.answers("13: 0 of none", true, () -> new Sumhoard().isSum(0, 0, often));
      Check.answers("13: 1 of none", false, () -> new Sumhoard().isSum(0, 1, often));
      Check.answers("13: 300 of none", false, () -> new Sumhoard().isSum(0, 300, often));
      Check.answers("13: 0", true, () -> x.isSum(0, 0, often));
      Check.answers("13: 300", true, () -> x.isSum(0, 300, often));
      Check.answers("13: 299", false, () -> x.isSum(0, 299, often));
    }
    Check.answers("13: all of them", true, () -> x.isSum(1, 120, false));
    Check.answers("13: above all of them", false, () -> x.isSum(1, 180, false));
    Check.answers("13: above all of them, often", true, () -> x.isSum(1, 180, true));
    Check.answers("13: 300 is 75 doubled twice", true, () -> Check.with(75).isSum(0, 300, true));
    Check.answers("13: 300 times 1", true, () -> ones(1).isSum(0, 300, true));
  }

  private static void promise14UpTo300() {
    Check.answers("14: 0 alone", 1, () -> new Sumhoard().sums(0, false));
    Check.answers("14: 0 alone, often", 1, () -> new Sumhoard().sums(0, true));
    Check.answers("14: 300 is the last one", 6, () -> Check.with(60).sums(0, true));
    Check.answers("14: 300 is behind 299", 4, () -> Check.with(100).sums(0, true));
    Check.answers("14: 300 is 75 doubled twice", 5, () -> Check.with(75).sums(0, true));
    Check.answers("14: 305 is too much", 5, () -> Check.with(61).sums(0, true));
    Check.answers("14: all 301 once", 301, () -> dense().sums(0, false));
    Check.answers("14: all 301 often", 301, () -> ones(1).sums(0, true));
  }

  private static void promise15NotBelow() {
    Check.answers("15: 0 itself", 0, () -> new Sumhoard().next(0, 0, false));
    Check.answers("15: 0 itself, often", 0, () -> new Sumhoard().next(0, 0, true));
    Check.answers("15: 300 itself", 300, () -> dense().next(0, 300, false));
    Check.answers("15: 300 itself, often", 300, () -> Check.with(100).next(0, 300, true));
    Check.answers("15: 300 is 75 doubled twice", 300, () -> Check.with(75).next(0, 226, true));
    Check.answers("15: far below it", 120, () -> Check.with(120).next(0, 1, false));
    Check.answers("15: one below it", 120, () -> Check.with(120).next(0, 119, false));
    Check.answers("15: it itself", 120, () -> Check.with(120).next(0, 120, false));
  }

  private static void promise15ThrowsIfNoneIsMade() {
    Sumhoard x = Check.with(120, 7);
    Check.answers("15: the last one", 127, () -> x.next(0, 127, false));
    Check.refuses("15: behind the last one", NONE, x, () -> x.next(0, 128, false));
    Check.refuses("15: at 300", NONE, x, () -> x.next(0, 300, false));
    Sumhoard often = Check.with(77);
    Check.answers("15: the last one, often", 231, () -> often.next(0, 231, true));
    Check.refuses("15: 308 is above 300", NONE, often, () -> often.next(0, 232, true));
    Sumhoard none = new Sumhoard();
    Check.refuses("15: of none", NONE, none, () -> none.next(0, 1, false));
    Check.refuses("15: of none, often", NONE, none, () -> none.next(1, 1, true));
  }

  private static void promise16NotAbove() {
    Sumhoard x = Check.with(120, 7);
    for (boolean often : new boolean[] {false, true}) {
      Check.answers("16: 0 itself", 0, () -> x.previous(0, 0, often));
      Check.answers("16: below the least", 0, () -> x.previous(0, 6, often));
      Check.answers("16: the least itself", 7, () -> x.previous(0, 7, often));
      Check.answers("16: of none", 0, () -> new Sumhoard().previous(1, 300, often));
      Check.answers("16: 300 itself", 300, () -> Check.with(120, 120, 60).previous(0, 300, often));
    }
    Check.answers("16: the last one", 127, () -> x.previous(0, 300, false));
    Check.answers("16: far above it, often", 231, () -> Check.with(77).previous(0, 300, true));
  }

  private static void promise17NotBelow() {
    Check.answers("17: none, from 0", 1, () -> new Sumhoard().gap(0, 0, false));
    Check.answers("17: none, from 1", 1, () -> new Sumhoard().gap(0, 1, true));
    Check.answers("17: none, 300", 300, () -> new Sumhoard().gap(0, 300, true));
    Check.answers("17: behind the last one", 21, () -> ones(20).gap(0, 0, false));
    Check.answers("17: 300 alone", 300,
        () -> Check.with(1, 2, 4, 8, 16, 32, 64, 120, 52).gap(0, 0, false));
  }

  private static void promise17ThrowsIfAllAreMade() {
    Sumhoard dense = dense();
    Check.refuses("17: dense, from 0", NONE, dense, () -> dense.gap(0, 0, false));
    Check.refuses("17: dense, from 300", NONE, dense, () -> dense.gap(0, 300, false));
    Sumhoard heavy = Check.with(120, 120, 60);
    Check.answers("17: 299 is the last one", 299, () -> heavy.gap(0, 299, false));
    Check.refuses("17: 300 is made", NONE, heavy, () -> heavy.gap(0, 300, false));
    Sumhoard pair = Check.with(2, 3);
    Check.answers("17: 1 alone is not made", 1, () -> pair.gap(0, 1, true));
    Check.refuses("17: all from 2 on are", NONE, pair, () -> pair.gap(0, 2, true));
  }

  private static void promise18TheGreatest() {
    Check.answers("18: none", 300, () -> new Sumhoard().lastGap(0, false));
    Check.answers("18: none, often", 300, () -> new Sumhoard().lastGap(0, true));
    Check.answers("18: 300 alone is made behind it", 299, () -> Check.with(100).lastGap(0, true));
    Check.answers("18: 1 alone is not made", 1, () -> Check.with(2, 3).lastGap(0, true));
    Check.answers("18: 300 alone is not made", 300,
        () -> Check.with(1, 2, 4, 8, 16, 32, 64, 120, 52).lastGap(0, false));
  }

  private static void promise18ThrowsIfAllAreMade() {
    Sumhoard dense = dense();
    Check.refuses("18: all once", NONE, dense, () -> dense.lastGap(0, false));
    Sumhoard one = Check.withBoth(new int[0], new int[] {120, 1});
    Check.refuses("18: all often", NONE, one, () -> one.lastGap(1, true));
    Check.answers("18: not all once", 300, () -> one.lastGap(1, false));
  }

  private static void promise19NoneIfItIsNotMade() {
    Sumhoard x = Check.with(77);
    for (boolean often : new boolean[] {false, true}) {
      Check.answers("19: 0", 1L, () -> x.ways(0, 0, often));
      Check.answers("19: 76", 0L, () -> x.ways(0, 76, often));
      Check.answers("19: 77", 1L, () -> x.ways(0, 77, often));
      Check.answers("19: 300", 0L, () -> x.ways(0, 300, often));
      Check.answers("19: none, 0", 1L, () -> new Sumhoard().ways(1, 0, often));
      Check.answers("19: none, 300", 0L, () -> new Sumhoard().ways(1, 300, often));
      Check.answers("19: the same at two places", 2L, () -> Check.with(77, 77).ways(0, 77, often));
    }
    Check.answers("19: twice, once", 0L, () -> x.ways(0, 154, false));
    Check.answers("19: twice, often", 1L, () -> x.ways(0, 154, true));
    Check.answers("19: a choice of 20 places", 1L,
        () -> Check.with(Check.repeated(15, 20)).ways(0, 300, false));
  }

  /** So many ones take a sum in as many ways as dividers stand between them: exact, then cut. */
  private static void promise19GoesRound() {
    boolean isSeenWithin = false;
    boolean isSeenNegative = false;
    boolean isSeenBeyond = false;
    for (int many = 1; many <= 20; many++) {
      Sumhoard x = ones(many);
      BigInteger exact = BigInteger.ONE;
      for (int sum = 0; sum <= 300; sum++) {
        int told = sum;
        Check.answers("19: " + many + " ones, " + sum, exact.longValue(),
            () -> x.ways(0, told, true));
        isSeenWithin |= exact.bitLength() == 63;
        isSeenNegative |= exact.bitLength() == 64;
        isSeenBeyond |= exact.bitLength() > 64;
        exact = exact.multiply(BigInteger.valueOf(sum + many)).divide(BigInteger.valueOf(sum + 1));
      }
    }
    Check.same("19: some are just within a long", true, isSeenWithin);
    Check.same("19: some are just beyond it", true, isSeenNegative);
    Check.same("19: some go round more than once", true, isSeenBeyond);
  }

  private static void promise20TheLeastOne() {
    Check.answers("20: none", 0, () -> new Sumhoard().most(0));
    Check.answers("20: 0 and 120 once each", 0, () -> Check.with(120).most(0));
    Check.answers("20: two in the middle", 120, () -> Check.with(120, 120, 60).most(0));
    Check.answers("20: 19 ones", 9, () -> ones(19).most(0));
    Check.answers("20: 20 ones", 10, () -> ones(20).most(0));
    Check.answers("20: one alone in the middle", 3, () -> Check.with(1, 2, 3).most(0));
    Check.answers("20: four alike", 1, () -> Check.with(1, 1, 1, 5).most(0));
  }

  private static void promise21EachAsOftenAsTaken() {
    Sumhoard x = Check.with(60, 60);
    for (boolean often : new boolean[] {false, true}) {
      Check.answers("21: 0", 0, () -> x.fewest(0, 0, often));
      Check.answers("21: 0 of none", 0, () -> new Sumhoard().fewest(1, 0, often));
      Check.answers("21: two", 2, () -> x.fewest(0, 120, often));
    }
    Check.answers("21: five", 5, () -> x.fewest(0, 300, true));
    Check.answers("21: 300 times 1", 300, () -> ones(20).fewest(0, 300, true));
    Check.answers("21: 20 of 20", 20,
        () -> Check.with(Check.repeated(15, 20)).fewest(0, 300, false));
    Check.answers("21: fewer than with the greatest one", 2,
        () -> Check.with(9, 7, 7, 4, 1).fewest(0, 14, false));
  }

  private static void promise21ThrowsIfItIsNotMade() {
    Sumhoard x = Check.withBoth(new int[] {77}, Check.repeated(15, 19));
    Check.answers("21: 77", 1, () -> x.fewest(0, 77, false));
    Check.refuses("21: 76", NONE, x, () -> x.fewest(0, 76, false));
    Check.refuses("21: 154, once", NONE, x, () -> x.fewest(0, 154, false));
    Check.answers("21: 154, often", 2, () -> x.fewest(0, 154, true));
    Check.refuses("21: 300, often", NONE, x, () -> x.fewest(0, 300, true));
    Check.refuses("21: 300 of 285", NONE, x, () -> x.fewest(1, 300, false));
    Check.answers("21: 300 of 285, often", 20, () -> x.fewest(1, 300, true));
  }

  private static void promise22SoManyPlaces() {
    Check.answers("22: 0 of none", 1, () -> new Sumhoard().withMany(0, 0));
    Check.answers("22: 1 of none", 0, () -> new Sumhoard().withMany(0, 1));
    Check.answers("22: 20 of none", 0, () -> new Sumhoard().withMany(0, 20));
    Check.answers("22: 19 of 19", 1, () -> ones(19).withMany(0, 19));
    Check.answers("22: 20 of 19", 0, () -> ones(19).withMany(0, 20));
    Check.answers("22: 20 of 20, 300 together", 1,
        () -> Check.with(Check.repeated(15, 20)).withMany(0, 20));
    Check.answers("22: 19 of 20, one unlike", 2, () -> {
      Sumhoard x = ones(19);
      x.add(0, 2);
      return x.withMany(0, 19);
    });
    Check.answers("22: 0 of 20", 1, () -> ones(20).withMany(0, 0));
    Check.answers("22: the same sum with 1 and with 2", 3, () -> Check.with(1, 2, 3).withMany(0, 2));
  }

  private static void promise23TheLeastDifference() {
    Check.answers("23: none", 0, () -> new Sumhoard().fair(0));
    Check.answers("23: 120 alone", 120, () -> Check.with(120).fair(0));
    Check.answers("23: 1 alone", 1, () -> ones(1).fair(0));
    Check.answers("23: halves of 300", 0, () -> Check.with(Check.repeated(15, 20)).fair(0));
    Check.answers("23: no halves of 300", 60, () -> Check.with(120, 120, 60).fair(0));
    Check.answers("23: an odd total", 15, () -> Check.with(Check.repeated(15, 19)).fair(0));
  }

  private static void promise24Share() {
    Check.answers("24: none", 1f, () -> new Sumhoard().share(0));
    Check.answers("24: all of 300", 1f, () -> dense().share(0));
    Check.answers("24: 2 of 121", 2f / 121f, () -> Check.with(120).share(0));
    Check.answers("24: 2 of 121 as a float", 0.016528925f, () -> Check.with(120).share(0));
    Check.answers("24: 21 of 301", 21f / 301f, () -> Check.with(Check.repeated(15, 20)).share(0));
  }

  private static void promise25MeanWays() {
    Check.answers("25: none", 1.0, () -> new Sumhoard().meanWays(0));
    Check.answers("25: one", 1.0, () -> Check.with(120).meanWays(0));
    Check.answers("25: 2 to the power 20 for 21", 49932.19047619047,
        () -> Check.with(Check.repeated(15, 20)).meanWays(0));
    Check.answers("25: 4 for 3", 4.0 / 3.0, () -> Check.with(1, 1).meanWays(0));
  }
}
