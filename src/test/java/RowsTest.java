import java.math.BigInteger;
import java.util.Arrays;
import java.util.BitSet;

/**
 * The theorem's rows as the document tells them, made with the JDK's own BigInteger and BitSet, and
 * what the class answers where these rows tell it: once (1), (2), often (3), ways (4), (5), parts
 * (6), and pairs of two hoards (7), which no call plays.
 */
final class RowsTest {
  private static final String NONE = "throws java.util.NoSuchElementException";
  private static final int MOST = 300;
  private static final int[][] HOARDS = {
    {}, {1}, {120}, {75}, {3, 5, 5, 8}, {6, 10, 15}, {120, 120, 60}, {119, 1, 118, 2, 60},
    {1, 2, 4, 8, 16, 32, 64, 120, 53}, {63, 64, 65, 1}, {97, 89, 113}, Check.repeated(1, 20),
    Check.repeated(15, 20), {20, 19, 18, 17, 16, 15, 14, 13, 12, 11, 10, 9, 8, 7, 6, 5, 4, 3, 2, 1}
  };

  private RowsTest() {
  }

  static void run() {
    for (int[] numbers : HOARDS) {
      madeOnce(numbers);
      madeOften(numbers);
      foundInARow(numbers, false);
      foundInARow(numbers, true);
      ways(numbers);
      oneLeftOut(numbers);
      parts(numbers);
      for (int[] others : HOARDS) {
        compared(numbers, others);
        together(numbers, others);
      }
    }
  }

  private static BigInteger shiftRow(int[] numbers) {
    BigInteger row = BigInteger.ONE;
    for (int n : numbers) {
      row = row.or(row.shiftLeft(n));
    }
    return row;
  }

  private static BitSet setRow(int[] numbers) {
    BitSet row = new BitSet();
    row.set(0);
    for (int n : numbers) {
      for (int s = row.length() - 1; s >= 0; s = s == 0 ? -1 : row.previousSetBit(s - 1)) {
        row.set(s + n);
      }
    }
    return row;
  }

  private static BigInteger oftenShiftRow(int[] numbers) {
    BigInteger cut = BigInteger.ONE.shiftLeft(MOST + 1).subtract(BigInteger.ONE);
    BigInteger row = BigInteger.ONE;
    for (int n : numbers) {
      for (int by = n; by <= MOST; by *= 2) {
        row = row.or(row.shiftLeft(by)).and(cut);
      }
    }
    return row;
  }

  private static BitSet oftenSetRow(int[] numbers) {
    BitSet row = new BitSet();
    row.set(0);
    for (int n : numbers) {
      for (int s = 0; s >= 0 && s + n <= MOST; s = row.nextSetBit(s + 1)) {
        row.set(s + n);
      }
    }
    return row;
  }

  private static BigInteger countRow(int[] numbers) {
    BigInteger row = BigInteger.ONE;
    for (int n : numbers) {
      row = row.add(row.shiftLeft(21 * n));
    }
    return row;
  }

  private static long countOf(BigInteger countRow, int sum) {
    return countRow.shiftRight(21 * sum).longValue() & (1L << 21) - 1;
  }

  private static String told(String promise, int[] numbers) {
    return promise + ": the rows of " + Arrays.toString(numbers);
  }

  private static void madeOnce(int[] numbers) {
    BigInteger shifts = shiftRow(numbers);
    BitSet set = setRow(numbers);
    int all = Arrays.stream(numbers).sum();
    Sumhoard x = Check.with(numbers);
    for (int sum = 0; sum <= MOST; sum++) {
      int at = sum;
      boolean isMirrored = sum <= all && shifts.testBit(all - sum);
      Check.same(told("terms (2)", numbers) + ", " + sum, isMirrored, shifts.testBit(sum));
      Check.answers(told("13", numbers) + ", " + sum, set.get(sum), () -> x.isSum(0, at, false));
    }
    Check.same(told("terms (1)", numbers), set.length(), shifts.bitLength());
    Check.answers(told("12", numbers), shifts.bitLength() - 1, () -> x.total(0));
    Check.answers(told("14", numbers), shifts.bitCount(), () -> x.sums(0, false));
  }

  private static void madeOften(int[] numbers) {
    BigInteger shifts = oftenShiftRow(numbers);
    BitSet set = oftenSetRow(numbers);
    Sumhoard x = Check.with(numbers);
    for (int sum = 0; sum <= MOST; sum++) {
      int at = sum;
      Check.same(told("terms (3)", numbers) + ", " + sum, set.get(sum), shifts.testBit(sum));
      Check.answers(told("13, often", numbers) + ", " + sum, set.get(sum),
          () -> x.isSum(0, at, true));
    }
    Check.answers(told("14, often", numbers), shifts.bitCount(), () -> x.sums(0, true));
  }

  private static Object orNone(int sum) {
    return sum >= 0 && sum <= MOST ? sum : NONE;
  }

  private static void foundInARow(int[] numbers, boolean isOften) {
    BitSet set = isOften ? oftenSetRow(numbers) : setRow(numbers);
    String of = isOften ? " often, from " : " once, from ";
    for (int sum = 0; sum <= MOST; sum += 7) {
      int at = sum;
      Sumhoard x = Check.with(numbers);
      Check.answers(told("15", numbers) + of + sum, orNone(set.nextSetBit(sum)),
          () -> x.next(0, at, isOften));
      Check.answers(told("16", numbers) + of + sum, set.previousSetBit(sum),
          () -> x.previous(0, at, isOften));
      Check.answers(told("17", numbers) + of + sum, orNone(set.nextClearBit(sum)),
          () -> x.gap(0, at, isOften));
      Check.answers(told("18", numbers) + of + MOST, orNone(set.previousClearBit(MOST)),
          () -> x.lastGap(0, isOften));
    }
  }

  private static void ways(int[] numbers) {
    BigInteger counts = countRow(numbers);
    Sumhoard x = Check.with(numbers);
    long together = 0;
    for (int sum = 0; sum <= MOST; sum++) {
      int at = sum;
      Check.answers(told("19", numbers) + ", " + sum, countOf(counts, sum),
          () -> x.ways(0, at, false));
      together += countOf(counts, sum);
    }
    Check.same(told("terms (4)", numbers), 1L << numbers.length, together);
  }

  /** Each place in turn: the counts that (5) finds are those of a hoard without its number. */
  private static void oneLeftOut(int[] numbers) {
    BigInteger counts = countRow(numbers);
    for (int place = 0; place < numbers.length; place++) {
      Sumhoard x = Check.with(numbers);
      x.takeOut(0, place);
      long[] left = new long[MOST + 1];
      for (int sum = 0; sum <= MOST; sum++) {
        int at = sum;
        long before = sum < numbers[place] ? 0 : left[sum - numbers[place]];
        left[sum] = countOf(counts, sum) - before;
        Check.answers(told("4, (5)", numbers) + " without place " + place + ", " + sum, left[sum],
            () -> x.ways(0, at, false));
      }
    }
  }

  /** Some choices of each hoard: the row of all, by (6), and the sums of the one part alone. */
  private static void parts(int[] numbers) {
    Sumhoard x = Check.with(numbers);
    int all = (1 << numbers.length) - 1;
    for (int mask : new int[] {0, 1, 0x55555, 0x33333, 0xf0f0f, 0xff, ~0}) {
      int choice = all & mask;
      BigInteger part = shiftRow(chosen(numbers, choice));
      BitSet others = setRow(chosen(numbers, all & ~choice));
      BigInteger joined = BigInteger.ZERO;
      for (int s = others.nextSetBit(0); s >= 0; s = others.nextSetBit(s + 1)) {
        joined = joined.or(part.shiftLeft(s));
      }
      String of = told("terms (6)", numbers) + ", choice " + choice;
      Check.same(of, shiftRow(numbers), joined);
      Check.answers("33, " + of, true, () -> x.isParted(0, choice));
      Check.answers("28, " + of, part.bitLength() - 1, () -> x.sumOf(0, choice));
      Check.answers("29, " + of, part.bitCount(), () -> x.partSums(0, choice));
    }
  }

  private static int[] chosen(int[] numbers, int choice) {
    int[] some = new int[Integer.bitCount(choice)];
    int many = 0;
    for (int place = 0; place < numbers.length; place++) {
      if ((choice >> place & 1) == 1) {
        some[many++] = numbers[place];
      }
    }
    return some;
  }

  private static void compared(int[] numbers, int[] others) {
    BigInteger one = shiftRow(numbers);
    BigInteger two = shiftRow(others);
    Sumhoard x = Check.withBoth(numbers, others);
    String of = told("30", numbers) + " and " + Arrays.toString(others);
    Check.answers(of + " &", one.and(two).bitCount(), () -> x.compare(0, 1, '&'));
    Check.answers(of + " |", one.or(two).bitCount(), () -> x.compare(0, 1, '|'));
    Check.answers(of + " ^", one.xor(two).bitCount(), () -> x.compare(0, 1, '^'));
    Check.answers(of + " -", one.andNot(two).bitCount(), () -> x.compare(0, 1, '-'));
    Check.answers("31, " + of, one.equals(two), () -> x.isLike(0, 1));
  }

  /** By (7): U is what the second hoard has together. */
  private static void together(int[] numbers, int[] others) {
    BigInteger one = shiftRow(numbers);
    BigInteger two = shiftRow(others);
    int u = Arrays.stream(others).sum();
    Sumhoard x = Check.withBoth(numbers, others);
    String of = told("32", numbers) + " and " + Arrays.toString(others) + ", ";
    for (int sum = 0; sum <= MOST; sum++) {
      int at = sum;
      BigInteger shifted = sum < u ? two.shiftRight(u - sum) : two.shiftLeft(sum - u);
      Check.answers(of + sum, one.and(shifted).bitCount(), () -> x.together(0, 1, at));
    }
  }
}
