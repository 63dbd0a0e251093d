import java.util.NoSuchElementException;

/** Promises 26 to 29, with answers worked out by hand. */
final class ChoicesTest {
  private static final Class<IndexOutOfBoundsException> NO_PLACE = IndexOutOfBoundsException.class;
  private static final Class<IllegalArgumentException> NO_VALUE = IllegalArgumentException.class;
  private static final Class<NoSuchElementException> NONE = NoSuchElementException.class;
  private static final int[] WRONG_HOARDS = {-1, 2, Integer.MIN_VALUE, Integer.MAX_VALUE};
  private static final int[] WRONG_CHOICES =
      {-1, 16, 17, 1 << 20, 1 << 31, Integer.MAX_VALUE, -16};
  private static final int ALL_20 = (1 << 20) - 1;

  /** The choices of each sum of 3, 5, 5, 8, the least one first. */
  private static final int[][] CHOICES_OF = {
    {0, 0}, {3, 1}, {5, 2, 4}, {8, 3, 5, 8}, {10, 6}, {11, 9}, {13, 7, 10, 12}, {16, 11, 13},
    {18, 14}, {21, 15}
  };

  private ChoicesTest() {
  }

  static void run() {
    promise26Choice();
    promise26ChoiceWrong();
    promise27Rank();
    promise28SumOf();
    promise29PartSums();
    wrongChoices();
  }

  private static Sumhoard four() {
    return Check.with(3, 5, 5, 8);
  }

  private static Sumhoard ones() {
    return Check.with(Check.repeated(1, 20));
  }

  private static void promise26Choice() {
    Sumhoard x = four();
    for (int[] row : CHOICES_OF) {
      for (int rank = 0; rank + 1 < row.length; rank++) {
        int told = rank;
        Check.answers("26: sum " + row[0] + ", rank " + rank, row[rank + 1],
            () -> x.choice(0, row[0], told));
      }
      Check.refuses("26: sum " + row[0] + ", one too many", NONE, x,
          () -> x.choice(0, row[0], row.length - 1));
    }
    Check.answers("26: none of none", 0, () -> x.choice(1, 0, 0));
    Check.answers("26: the first 10 of 20 ones", 1023, () -> ones().choice(0, 10, 0));
    Check.answers("26: the second 10", 1023 - 512 + 1024, () -> ones().choice(0, 10, 1));
    Check.answers("26: the last 10", 1023 << 10, () -> ones().choice(0, 10, 184755));
    Check.refuses("26: behind the last 10", NONE, x, () -> ones().choice(0, 10, 184756));
    Check.answers("26: all 20", ALL_20, () -> ones().choice(0, 20, 0));
    Check.answers("26: 300 of 300", 7, () -> Check.with(120, 120, 60).choice(0, 300, 0));
  }

  private static void promise26ChoiceWrong() {
    Sumhoard x = four();
    for (int wrong : new int[] {-1, 1, 1 << 20, Integer.MIN_VALUE, Integer.MAX_VALUE}) {
      Check.refuses("26: rank " + wrong, NONE, x, () -> x.choice(0, 3, wrong));
    }
    Check.refuses("26: a sum that is not made", NONE, x, () -> x.choice(0, 4, 0));
    Check.refuses("26: a sum above all", NONE, x, () -> x.choice(0, 300, 0));
    Check.refuses("26: 1 of none", NONE, x, () -> x.choice(1, 1, 0));
    for (int wrong : new int[] {-1, 301, Integer.MIN_VALUE, Integer.MAX_VALUE}) {
      Check.refuses("26: sum " + wrong, NO_VALUE, x, () -> x.choice(0, wrong, -1));
    }
    for (int wrong : WRONG_HOARDS) {
      Check.refuses("26: hoard " + wrong, NO_PLACE, x, () -> x.choice(wrong, 301, -1));
    }
  }

  private static void promise27Rank() {
    Sumhoard x = four();
    for (int[] row : CHOICES_OF) {
      for (int rank = 0; rank + 1 < row.length; rank++) {
        int choice = row[rank + 1];
        Check.answers("27: choice " + choice, rank, () -> x.rank(0, choice));
      }
    }
    Check.answers("27: none of none", 0, () -> x.rank(1, 0));
    Check.answers("27: the last 10 of 20 ones", 184755, () -> ones().rank(0, 1023 << 10));
    Check.answers("27: all 20", 0, () -> ones().rank(0, ALL_20));
    Check.answers("27: place 19 alone", 19, () -> ones().rank(0, 1 << 19));
  }

  private static void promise28SumOf() {
    Sumhoard x = four();
    for (int[] row : CHOICES_OF) {
      for (int i = 1; i < row.length; i++) {
        int choice = row[i];
        Check.answers("28: choice " + choice, row[0], () -> x.sumOf(0, choice));
      }
    }
    Check.answers("28: none of none", 0, () -> x.sumOf(1, 0));
    Check.answers("28: all 20", 300, () -> Check.with(Check.repeated(15, 20)).sumOf(0, ALL_20));
  }

  private static void promise29PartSums() {
    Sumhoard x = four();
    int[] due = {1, 2, 2, 4, 2, 4, 3, 6, 2, 4, 4, 7, 4, 7, 6, 10};
    for (int choice = 0; choice < due.length; choice++) {
      int told = choice;
      Check.answers("29: choice " + choice, due[choice], () -> x.partSums(0, told));
    }
    Check.answers("29: none of none", 1, () -> x.partSums(1, 0));
    Check.answers("29: all 20", 21, () -> ones().partSums(0, ALL_20));
    Check.answers("29: place 19 alone", 2, () -> ones().partSums(0, 1 << 19));
    Check.answers("29: the hoard stays", "3,5,5,8", () -> {
      x.partSums(0, 5);
      return Check.numbersOf(x, 0);
    });
  }

  private static void wrongChoices() {
    Sumhoard x = four();
    for (int wrong : WRONG_CHOICES) {
      Check.refuses("27: choice " + wrong, NO_VALUE, x, () -> x.rank(0, wrong));
      Check.refuses("28: choice " + wrong, NO_VALUE, x, () -> x.sumOf(0, wrong));
      Check.refuses("29: choice " + wrong, NO_VALUE, x, () -> x.partSums(0, wrong));
    }
    Check.refuses("27: 1 of none", NO_VALUE, x, () -> x.rank(1, 1));
    Check.refuses("28: 1 of none", NO_VALUE, x, () -> x.sumOf(1, 1));
    Check.refuses("29: 1 of none", NO_VALUE, x, () -> x.partSums(1, 1));
    Sumhoard full = ones();
    Check.refuses("27: place 20", NO_VALUE, full, () -> full.rank(0, ALL_20 + 1));
    Check.refuses("28: place 20", NO_VALUE, full, () -> full.sumOf(0, ALL_20 + 1));
    Check.refuses("29: place 20", NO_VALUE, full, () -> full.partSums(0, ALL_20 + 1));
    for (int wrong : WRONG_HOARDS) {
      Check.refuses("27: hoard " + wrong, NO_PLACE, x, () -> x.rank(wrong, -1));
      Check.refuses("28: hoard " + wrong, NO_PLACE, x, () -> x.sumOf(wrong, 16));
      Check.refuses("29: hoard " + wrong, NO_PLACE, x, () -> x.partSums(wrong, 16));
    }
  }
}
