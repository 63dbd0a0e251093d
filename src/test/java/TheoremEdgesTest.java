import java.math.BigInteger;

/** Promises 33 to 38 at their edges: no numbers, no places, all 20, 300 together, going round. */
final class TheoremEdgesTest {
  private static final Class<IndexOutOfBoundsException> NO_PLACE = IndexOutOfBoundsException.class;
  private static final Class<IllegalArgumentException> NO_VALUE = IllegalArgumentException.class;
  private static final Class<IllegalStateException> TOO_MANY = IllegalStateException.class;
  private static final int ALL_20 = (1 << 20) - 1;

  private TheoremEdgesTest() {
  }

  static void run() {
    promise33OnePartIsEmpty();
    promise34ThrowsIfMoreThan8();
    promise34NoChoiceComesFirst();
    promise35OneNumber();
    promise36CutAt300();
    promise37NoneAndFull();
    promise38SevenAtFirst();
    promise38GoesRound();
  }

  private static Sumhoard full() {
    return Check.withBoth(Check.repeated(15, 20), Check.repeated(1, 20));
  }

  private static void promise33OnePartIsEmpty() {
    Check.answers("33: none and none", true, () -> new Sumhoard().isParted(0, 0));
    Sumhoard x = full();
    for (int hoard = 0; hoard < 2; hoard++) {
      int told = hoard;
      Check.answers("33: none and 20", true, () -> x.isParted(told, 0));
      Check.answers("33: 20 and none", true, () -> x.isParted(told, ALL_20));
      Check.answers("33: 1 and 19", true, () -> x.isParted(told, 1 << 19));
      Check.answers("33: 19 and 1", true, () -> x.isParted(told, ALL_20 >> 1));
    }
    Sumhoard one = Check.with(120);
    Check.answers("33: none and one", true, () -> one.isParted(0, 0));
    Check.answers("33: one and none", true, () -> one.isParted(0, 1));
  }

  private static void promise34ThrowsIfMoreThan8() {
    Check.answers("34: none of none", true, () -> new Sumhoard().isAll(1, 0));
    Sumhoard x = full();
    int[] inside = {0, 1, 1 << 19, 255, 255 << 12, 0x55555 & ~5, 127 << 13 | 1};
    int[] outside = {511, 511 << 11, 0x55555, 0xaaaaa, 255 << 12 | 1, ALL_20, ALL_20 >> 1};
    for (int hoard = 0; hoard < 2; hoard++) {
      int told = hoard;
      for (int choice : inside) {
        Check.answers("34: " + Integer.toBinaryString(choice), true, () -> x.isAll(told, choice));
      }
      for (int choice : outside) {
        Check.refuses("34: " + Integer.toBinaryString(choice), TOO_MANY, x,
            () -> x.isAll(told, choice));
      }
    }
    Check.answers("34: 8 of 8, 300 together", true,
        () -> Check.with(120, 120, 1, 1, 1, 1, 1, 55).isAll(0, 255));
  }

  private static void promise34NoChoiceComesFirst() {
    Sumhoard x = Check.withBoth(Check.repeated(15, 19), new int[0]);
    Check.refuses("34: 19 of 19", TOO_MANY, x, () -> x.isAll(0, ALL_20 >> 1));
    Check.refuses("34: 20 of 19", NO_VALUE, x, () -> x.isAll(0, ALL_20));
    Check.refuses("34: 9 of none", NO_VALUE, x, () -> x.isAll(1, 511));
    Check.refuses("34: no hoard, 9 places", NO_PLACE, x, () -> x.isAll(2, 511));
  }

  private static void promise35OneNumber() {
    Sumhoard one = Check.with(120);
    Check.answers("35: no others", true, () -> one.isLeft(0, 0));
    Check.refuses("35: none at all", NO_PLACE, one, () -> one.isLeft(1, 0));
    Sumhoard x = full();
    for (int hoard = 0; hoard < 2; hoard++) {
      int told = hoard;
      Check.answers("35: the first of 20", true, () -> x.isLeft(told, 0));
      Check.answers("35: the last of 20", true, () -> x.isLeft(told, 19));
      Check.refuses("35: behind the last", NO_PLACE, x, () -> x.isLeft(told, 20));
    }
  }

  private static void promise36CutAt300() {
    int[][] hoards = {
      {}, {1}, {60}, {61}, {75}, {76}, {100}, {101}, {120}, {119, 120}, {120, 120, 60}, {2, 3}
    };
    for (int[] numbers : hoards) {
      Sumhoard x = Check.with(numbers);
      String told = Check.numbersOf(x, 0);
      Check.answers("36: " + told, true, () -> x.isOftenAlike(0));
      Check.answers("36: the other one is none", true, () -> x.isOftenAlike(1));
    }
    Sumhoard full = full();
    Check.answers("36: 20 times 15", true, () -> full.isOftenAlike(0));
    Check.answers("36: 20 ones", true, () -> full.isOftenAlike(1));
  }

  private static void promise37NoneAndFull() {
    Check.answers("37: none", true, () -> new Sumhoard().isSound());
    Sumhoard x = full();
    Check.answers("37: 20 and 20", true, () -> x.isSound());
    x.clear(0);
    Check.answers("37: none and 20", true, () -> x.isSound());
    x.join(1, 0, 0);
    x.clear(1);
    Check.answers("37: 20 and none", true, () -> x.isSound());
  }

  /** Exact, then cut to a long: 7, then for each hoard its size, its numbers and its ways. */
  private static BigInteger exactOf(int[] first, int[] second) {
    BigInteger check = BigInteger.valueOf(7);
    for (int[] numbers : new int[][] {first, second}) {
      Sumhoard x = Check.with(numbers);
      check = next(check, numbers.length);
      for (int number : numbers) {
        check = next(check, number);
      }
      for (int sum = 0; sum <= 300; sum++) {
        check = next(check, x.ways(0, sum, false));
      }
    }
    return check;
  }

  private static BigInteger next(BigInteger check, long more) {
    return check.multiply(BigInteger.valueOf(31)).add(BigInteger.valueOf(more));
  }

  private static void promise38SevenAtFirst() {
    BigInteger check = BigInteger.valueOf(7);
    for (int hoard = 0; hoard < 2; hoard++) {
      // No numbers, one way of 0, and none of 1 to 300.
      check = next(next(check, 0), 1).multiply(BigInteger.valueOf(31).pow(300));
    }
    long due = check.longValue();
    Check.answers("38: none", due, () -> new Sumhoard().checksum());
  }

  private static void promise38GoesRound() {
    int[][] firsts = {{}, {1}, {}, Check.repeated(15, 20), {120, 120, 60}};
    int[][] seconds = {{}, {}, {1}, Check.repeated(1, 20), {3, 5, 5, 8}};
    boolean isSeenBelow0 = false;
    for (int pair = 0; pair < firsts.length; pair++) {
      Sumhoard x = Check.withBoth(firsts[pair], seconds[pair]);
      BigInteger exact = exactOf(firsts[pair], seconds[pair]);
      Check.same("38: more than a long has", true, exact.bitLength() > 64);
      Check.answers("38: " + Check.stateOf(x), exact.longValue(), () -> x.checksum());
      isSeenBelow0 |= x.checksum() < 0;
    }
    Check.same("38: one goes round to below 0", true, isSeenBelow0);
  }
}
