import java.math.BigInteger;
import java.util.NoSuchElementException;
import java.util.Set;

/** Promises 13 to 25, with answers worked out by hand. */
final class SumsTest {
  private static final Class<IndexOutOfBoundsException> NO_PLACE = IndexOutOfBoundsException.class;
  private static final Class<IllegalArgumentException> NO_VALUE = IllegalArgumentException.class;
  private static final Class<NoSuchElementException> NONE = NoSuchElementException.class;
  private static final int[] WRONG_HOARDS = {-1, 2, Integer.MIN_VALUE, Integer.MAX_VALUE};
  private static final int[] WRONG_SUMS =
      {-1, 301, 320, 1 << 16, Integer.MIN_VALUE, Integer.MAX_VALUE};

  /** 3, 5, 5, 8 has 10 sums: these. */
  private static final Set<Integer> MADE_ONCE = Set.of(0, 3, 5, 8, 10, 11, 13, 16, 18, 21);
  /** 6, 10, 15, taken often, make all but these. */
  private static final Set<Integer> GAPS_OFTEN =
      Set.of(1, 2, 3, 4, 5, 7, 8, 9, 11, 13, 14, 17, 19, 23, 29);

  private SumsTest() {
  }

  private static Sumhoard four() {
    return Check.withBoth(new int[] {3, 5, 5, 8}, new int[] {6, 10, 15});
  }

  private static Sumhoard heavy() {
    return Check.with(120, 120, 60);
  }

  /** All sums from 0 to 300 are made once. */
  private static Sumhoard dense() {
    return Check.with(1, 2, 4, 8, 16, 32, 64, 120, 53);
  }

  private static Sumhoard ones() {
    return Check.with(Check.repeated(1, 20));
  }

  static void run() {
    promise13IsSum();
    promise14Sums();
    promise15Next();
    promise16Previous();
    promise17Gap();
    promise18LastGap();
    promise19Ways();
    promise19WaysOften();
    promise20Most();
    promise21Fewest();
    promise22WithMany();
    promise23Fair();
    promise24Share();
    promise25MeanWays();
    wrongHoards();
    wrongSums();
  }

  private static void promise13IsSum() {
    for (int sum = 0; sum <= 300; sum++) {
      int told = sum;
      Sumhoard x = four();
      Sumhoard none = new Sumhoard();
      Sumhoard dense = dense();
      Check.answers("13: once " + sum, MADE_ONCE.contains(sum), () -> x.isSum(0, told, false));
      Check.answers("13: often " + sum, !GAPS_OFTEN.contains(sum), () -> x.isSum(1, told, true));
      Check.answers("13: of none " + sum, sum == 0, () -> none.isSum(0, told, false));
      Check.answers("13: of none, often " + sum, sum == 0, () -> none.isSum(0, told, true));
      Check.answers("13: of the dense " + sum, true, () -> dense.isSum(0, told, false));
    }
  }

  private static void promise14Sums() {
    Sumhoard x = four();
    Check.answers("14: once", 10, () -> x.sums(0, false));
    Check.answers("14: the same often", 297, () -> x.sums(0, true));
    Check.answers("14: often", 286, () -> x.sums(1, true));
    Check.answers("14: the same once", 8, () -> x.sums(1, false));
    Check.answers("14: 120 often", 3, () -> Check.with(120).sums(0, true));
    Check.answers("14: 1 often", 301, () -> Check.with(1).sums(0, true));
    Check.answers("14: 2 and 2 often", 151, () -> Check.with(2, 2).sums(0, true));
    Check.answers("14: none often", 1, () -> new Sumhoard().sums(1, true));
    Check.answers("14: dense", 301, () -> dense().sums(0, false));
    Check.answers("14: ones", 21, () -> ones().sums(0, false));
  }

  private static void promise15Next() {
    Sumhoard x = four();
    Check.answers("15: from 0", 0, () -> x.next(0, 0, false));
    Check.answers("15: from 1", 3, () -> x.next(0, 1, false));
    Check.answers("15: from 14", 16, () -> x.next(0, 14, false));
    Check.answers("15: from the last", 21, () -> x.next(0, 21, false));
    Check.refuses("15: behind the last", NONE, x, () -> x.next(0, 22, false));
    Check.refuses("15: from 300", NONE, x, () -> x.next(0, 300, false));
    Check.answers("15: often from 22", 22, () -> x.next(0, 22, true));
    Check.answers("15: often from 13", 15, () -> x.next(1, 13, true));
    Sumhoard wide = Check.with(120);
    Check.answers("15: 120 often", 240, () -> wide.next(0, 121, true));
    Check.refuses("15: 120 often from 241", NONE, wide, () -> wide.next(0, 241, true));
    Check.answers("15: the total 300", 300, () -> heavy().next(0, 241, false));
    Check.refuses("15: of none", NONE, x, () -> new Sumhoard().next(0, 1, true));
  }

  private static void promise16Previous() {
    Sumhoard x = four();
    Check.answers("16: from 300", 21, () -> x.previous(0, 300, false));
    Check.answers("16: from 20", 18, () -> x.previous(0, 20, false));
    Check.answers("16: from one that is made", 18, () -> x.previous(0, 18, false));
    Check.answers("16: from 2", 0, () -> x.previous(0, 2, false));
    Check.answers("16: from 0", 0, () -> x.previous(0, 0, false));
    Check.answers("16: often from 29", 28, () -> x.previous(1, 29, true));
    Check.answers("16: often from 300", 300, () -> x.previous(1, 300, true));
    Check.answers("16: once from 300", 31, () -> x.previous(1, 300, false));
    Check.answers("16: of none", 0, () -> new Sumhoard().previous(0, 300, true));
    Check.answers("16: the total 300", 300, () -> heavy().previous(0, 300, false));
    Check.answers("16: below the total 300", 240, () -> heavy().previous(0, 299, false));
  }

  private static void promise17Gap() {
    Sumhoard x = four();
    Check.answers("17: from 0", 1, () -> x.gap(0, 0, false));
    Check.answers("17: from one that is not made", 4, () -> x.gap(0, 4, false));
    Check.answers("17: from 10", 12, () -> x.gap(0, 10, false));
    Check.answers("17: behind the total", 22, () -> x.gap(0, 21, false));
    Check.answers("17: from 300", 300, () -> x.gap(0, 300, false));
    Check.answers("17: often from 24", 29, () -> x.gap(1, 24, true));
    Check.refuses("17: often from 30", NONE, x, () -> x.gap(1, 30, true));
    Sumhoard dense = dense();
    Check.refuses("17: dense from 0", NONE, dense, () -> dense.gap(0, 0, false));
    Sumhoard heavy = heavy();
    Check.answers("17: heavy from 240", 241, () -> heavy.gap(0, 240, false));
    Check.refuses("17: heavy from 300", NONE, heavy, () -> heavy.gap(0, 300, false));
    Check.refuses("17: 1 often", NONE, x, () -> Check.with(1).gap(0, 0, true));
    Check.answers("17: of none often", 1, () -> new Sumhoard().gap(0, 0, true));
  }

  private static void promise18LastGap() {
    Sumhoard x = four();
    Check.answers("18: once", 300, () -> x.lastGap(0, false));
    Check.answers("18: often", 29, () -> x.lastGap(1, true));
    Check.answers("18: 3, 5, 8 often", 7, () -> x.lastGap(0, true));
    Check.answers("18: heavy", 299, () -> heavy().lastGap(0, false));
    Check.answers("18: even ones", 299, () -> Check.with(2).lastGap(0, true));
    Check.answers("18: none", 300, () -> new Sumhoard().lastGap(1, true));
    Sumhoard dense = dense();
    Check.refuses("18: dense", NONE, dense, () -> dense.lastGap(0, false));
    Check.refuses("18: 1 often", NONE, dense, () -> dense.lastGap(0, true));
  }

  private static void promise19Ways() {
    Sumhoard x = four();
    int[] ways = new int[301];
    int[][] told = {{0, 1}, {3, 1}, {5, 2}, {8, 3}, {10, 1}, {11, 1}, {13, 3}, {16, 2}, {18, 1}, {21, 1}};
    for (int[] one : told) {
      ways[one[0]] = one[1];
    }
    for (int sum = 0; sum <= 300; sum++) {
      int at = sum;
      Check.answers("19: ways of " + sum, (long) ways[sum], () -> x.ways(0, at, false));
    }
    Check.answers("19: of 20 ones", 184756L, () -> ones().ways(0, 10, false));
    Check.answers("19: 20 ones, all", 1L, () -> ones().ways(0, 20, false));
    Check.answers("19: heavy 180", 2L, () -> heavy().ways(0, 180, false));
    Check.answers("19: heavy 300", 1L, () -> heavy().ways(0, 300, false));
    Check.answers("19: none, 0", 1L, () -> new Sumhoard().ways(0, 0, false));
    Check.answers("19: none, 300", 0L, () -> new Sumhoard().ways(0, 300, false));
  }

  private static void promise19WaysOften() {
    Sumhoard x = four();
    Check.answers("19: often 60", 6L, () -> x.ways(1, 60, true));
    Check.answers("19: often 29", 0L, () -> x.ways(1, 29, true));
    Check.answers("19: often 0", 1L, () -> x.ways(1, 0, true));
    Check.answers("19: often 5 at two places", 2L, () -> x.ways(0, 5, true));
    Check.answers("19: often 10 at two places", 3L, () -> x.ways(0, 10, true));
    Check.answers("19: 1, 1 often", 301L, () -> Check.with(1, 1).ways(0, 300, true));
    Check.answers("19: 1, 1, 1 often", 45451L, () -> Check.with(1, 1, 1).ways(0, 300, true));
    Check.answers("19: none often 0", 1L, () -> new Sumhoard().ways(0, 0, true));
    Check.answers("19: none often 1", 0L, () -> new Sumhoard().ways(0, 1, true));
    // 20 ones take 300 in as many ways as 19 of 319 can be told apart: more than a long has.
    BigInteger exact = BigInteger.ONE;
    for (int i = 1; i <= 19; i++) {
      exact = exact.multiply(BigInteger.valueOf(300 + i)).divide(BigInteger.valueOf(i));
    }
    Check.same("19: the ways are more than a long has", true, exact.bitLength() > 64);
    Check.answers("19: goes round", exact.longValue(), () -> ones().ways(0, 300, true));
  }

  private static void promise20Most() {
    Check.answers("20: the least one of two", 8, () -> four().most(0));
    Check.answers("20: all sums once", 0, () -> four().most(1));
    Check.answers("20: ones", 10, () -> ones().most(0));
    Check.answers("20: 1 of 1, 1", 1, () -> Check.with(1, 1).most(0));
    Check.answers("20: heavy", 120, () -> heavy().most(0));
    Check.answers("20: none", 0, () -> new Sumhoard().most(0));
    Check.answers("20: 20 times 15", 150,
        () -> Check.with(Check.repeated(15, 20)).most(0));
  }

  private static void promise21Fewest() {
    Sumhoard x = four();
    int[][] once = {{0, 0}, {3, 1}, {5, 1}, {8, 1}, {10, 2}, {11, 2}, {13, 2}, {16, 3}, {18, 3}, {21, 4}};
    for (int[] one : once) {
      Check.answers("21: once " + one[0], one[1], () -> x.fewest(0, one[0], false));
    }
    int[][] often = {{0, 0}, {6, 2}, {9, 3}, {13, 2}, {15, 3}, {16, 2}, {300, 39}};
    for (int[] one : often) {
      Check.answers("21: often " + one[0], one[1], () -> x.fewest(0, one[0], true));
    }
    Check.answers("21: often 60", 4, () -> x.fewest(1, 60, true));
    Check.answers("21: 1 often", 300, () -> Check.with(1).fewest(0, 300, true));
    Check.answers("21: 20 ones", 20, () -> ones().fewest(0, 20, false));
    Check.answers("21: none", 0, () -> new Sumhoard().fewest(0, 0, true));
    Check.refuses("21: once 1", NONE, x, () -> x.fewest(0, 1, false));
    Check.refuses("21: once 300", NONE, x, () -> x.fewest(0, 300, false));
    Check.refuses("21: often 29", NONE, x, () -> x.fewest(1, 29, true));
    Check.refuses("21: 21 of 20 ones", NONE, x, () -> ones().fewest(0, 21, false));
    Check.refuses("21: of none", NONE, x, () -> new Sumhoard().fewest(0, 1, true));
  }

  private static void promise22WithMany() {
    Sumhoard x = four();
    int[] due = {1, 3, 4, 3, 1, 0, 0};
    for (int many = 0; many < due.length; many++) {
      int told = many;
      Check.answers("22: " + many + " places", due[many], () -> x.withMany(0, told));
    }
    Check.answers("22: 20 of 4 places", 0, () -> x.withMany(0, 20));
    Check.answers("22: 20 of 20 places", 1, () -> ones().withMany(0, 20));
    Check.answers("22: 10 of 20 ones", 1, () -> ones().withMany(0, 10));
    Check.answers("22: 0 of none", 1, () -> new Sumhoard().withMany(0, 0));
    Check.answers("22: 1 of none", 0, () -> new Sumhoard().withMany(0, 1));
    Check.answers("22: 2 of the heavy", 2, () -> heavy().withMany(0, 2));
    Sumhoard changing = heavy();
    Check.answers("22: 3 of the heavy", 1, () -> changing.withMany(0, 3));
    changing.exchange(0, 2, 59);
    Check.answers("22: 3 of the heavy, one number less", 1, () -> changing.withMany(0, 3));
    for (int wrong : new int[] {-1, 21, 32, Integer.MIN_VALUE, Integer.MAX_VALUE}) {
      Check.refuses("22: " + wrong + " places", NO_VALUE, x, () -> x.withMany(0, wrong));
      Check.refuses("22: no hoard first", NO_PLACE, x, () -> x.withMany(2, wrong));
    }
  }

  private static void promise23Fair() {
    Check.answers("23: 10 and 11", 1, () -> four().fair(0));
    Check.answers("23: 15 and 16", 1, () -> four().fair(1));
    Check.answers("23: 120 and 180", 60, () -> heavy().fair(0));
    Check.answers("23: 7 alone", 7, () -> Check.with(7).fair(0));
    Check.answers("23: 1 and 120", 119, () -> Check.with(1, 120).fair(0));
    Check.answers("23: halves", 0, () -> Check.with(9, 4, 5).fair(0));
    Check.answers("23: none", 0, () -> new Sumhoard().fair(1));
    Check.answers("23: 300 in halves", 0, () -> dense().fair(0));
  }

  private static void promise24Share() {
    Check.answers("24: 10 of 22", 10f / 22f, () -> four().share(0));
    Check.answers("24: 8 of 32", 0.25f, () -> four().share(1));
    Check.answers("24: 6 of 301", 6f / 301f, () -> heavy().share(0));
    Check.answers("24: dense", 1f, () -> dense().share(0));
    Check.answers("24: none", 1f, () -> new Sumhoard().share(0));
  }

  private static void promise25MeanWays() {
    Check.answers("25: 16 to 10", 1.6, () -> four().meanWays(0));
    Check.answers("25: 8 to 8", 1.0, () -> four().meanWays(1));
    Check.answers("25: 2 to the power 20 to 21", 1048576.0 / 21.0, () -> ones().meanWays(0));
    Check.answers("25: 512 to 301", 512.0 / 301.0, () -> dense().meanWays(0));
    Check.answers("25: none", 1.0, () -> new Sumhoard().meanWays(0));
  }

  private static void wrongHoards() {
    Sumhoard x = four();
    for (int wrong : WRONG_HOARDS) {
      String of = " of hoard " + wrong;
      Check.refuses("13: isSum" + of, NO_PLACE, x, () -> x.isSum(wrong, 301, false));
      Check.refuses("14: sums" + of, NO_PLACE, x, () -> x.sums(wrong, false));
      Check.refuses("15: next" + of, NO_PLACE, x, () -> x.next(wrong, 301, false));
      Check.refuses("16: previous" + of, NO_PLACE, x, () -> x.previous(wrong, -1, true));
      Check.refuses("17: gap" + of, NO_PLACE, x, () -> x.gap(wrong, -1, true));
      Check.refuses("18: lastGap" + of, NO_PLACE, x, () -> x.lastGap(wrong, true));
      Check.refuses("19: ways" + of, NO_PLACE, x, () -> x.ways(wrong, 301, true));
      Check.refuses("20: most" + of, NO_PLACE, x, () -> x.most(wrong));
      Check.refuses("21: fewest" + of, NO_PLACE, x, () -> x.fewest(wrong, 301, false));
      Check.refuses("22: withMany" + of, NO_PLACE, x, () -> x.withMany(wrong, 21));
      Check.refuses("23: fair" + of, NO_PLACE, x, () -> x.fair(wrong));
      Check.refuses("24: share" + of, NO_PLACE, x, () -> x.share(wrong));
      Check.refuses("25: meanWays" + of, NO_PLACE, x, () -> x.meanWays(wrong));
    }
  }

  private static void wrongSums() {
    Sumhoard x = four();
    for (int wrong : WRONG_SUMS) {
      for (boolean isOften : new boolean[] {false, true}) {
        String of = " of sum " + wrong + (isOften ? " often" : " once");
        Check.refuses("13: isSum" + of, NO_VALUE, x, () -> x.isSum(0, wrong, isOften));
        Check.refuses("15: next" + of, NO_VALUE, x, () -> x.next(0, wrong, isOften));
        Check.refuses("16: previous" + of, NO_VALUE, x, () -> x.previous(0, wrong, isOften));
        Check.refuses("17: gap" + of, NO_VALUE, x, () -> x.gap(0, wrong, isOften));
        Check.refuses("19: ways" + of, NO_VALUE, x, () -> x.ways(0, wrong, isOften));
        Check.refuses("21: fewest" + of, NO_VALUE, x, () -> x.fewest(0, wrong, isOften));
      }
    }
  }
}
