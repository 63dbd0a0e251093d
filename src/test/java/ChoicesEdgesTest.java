import java.util.NoSuchElementException;

/** Promises 26 to 29 at their edges, sentence by sentence: no places, all 20, the last rank. */
final class ChoicesEdgesTest {
  private static final Class<NoSuchElementException> NONE = NoSuchElementException.class;
  private static final int ALL_20 = (1 << 20) - 1;

  private ChoicesEdgesTest() {
  }

  static void run() {
    promise26TheLeastFirst();
    promise26TheChoiceOfNone();
    promise26ThrowsIfThereIsNoSuchOne();
    promise27HowManyLesser();
    promise27IsTheOtherWayRound();
    promise28TheSumOfAChoice();
    promise29ByThePlacesAlone();
  }

  private static Sumhoard full() {
    return Check.with(Check.repeated(15, 20));
  }

  private static void promise26TheLeastFirst() {
    Sumhoard x = Check.with(6, 1, 2, 3);
    int[] due = {1, 14};
    for (int rank = 0; rank < due.length; rank++) {
      int told = rank;
      Check.answers("26: 6, rank " + rank, due[rank], () -> x.choice(0, 6, told));
    }
    Sumhoard full = full();
    for (int rank = 0; rank < 20; rank++) {
      int told = rank;
      Check.answers("26: one of 20 like ones, rank " + rank, 1 << rank,
          () -> full.choice(0, 15, told));
      Check.answers("26: all but one, rank " + rank, ALL_20 & ~(1 << (19 - rank)),
          () -> full.choice(0, 285, told));
    }
  }

  private static void promise26TheChoiceOfNone() {
    Check.answers("26: none of none", 0, () -> new Sumhoard().choice(0, 0, 0));
    Check.answers("26: none of 20", 0, () -> full().choice(0, 0, 0));
    Check.answers("26: all of 20", ALL_20, () -> full().choice(0, 300, 0));
    Check.answers("26: place 19 alone", 1 << 19, () -> {
      Sumhoard x = Check.with(Check.repeated(1, 19));
      x.add(0, 120);
      return x.choice(0, 120, 0);
    });
  }

  private static void promise26ThrowsIfThereIsNoSuchOne() {
    Sumhoard x = full();
    Check.answers("26: the last of 184756", ALL_20 & ~1023, () -> x.choice(0, 150, 184755));
    int[] wrong = {184756, -1, Integer.MIN_VALUE, Integer.MAX_VALUE};
    for (int rank : wrong) {
      Check.refuses("26: 150, rank " + rank, NONE, x, () -> x.choice(0, 150, rank));
    }
    for (int rank : new int[] {1, -1}) {
      Check.refuses("26: 0, rank " + rank, NONE, x, () -> x.choice(0, 0, rank));
      Check.refuses("26: 300, rank " + rank, NONE, x, () -> x.choice(0, 300, rank));
    }
    Check.refuses("26: a sum that is not made", NONE, x, () -> x.choice(0, 299, 0));
    Sumhoard none = new Sumhoard();
    Check.refuses("26: 1 of none", NONE, none, () -> none.choice(0, 1, 0));
    Check.refuses("26: 300 of none", NONE, none, () -> none.choice(1, 300, 0));
    Sumhoard one = Check.with(7);
    Check.refuses("26: made often alone", NONE, one, () -> one.choice(0, 14, 0));
  }

  private static void promise27HowManyLesser() {
    Check.answers("27: none of none", 0, () -> new Sumhoard().rank(1, 0));
    Sumhoard full = full();
    Check.answers("27: none of 20", 0, () -> full.rank(0, 0));
    Check.answers("27: all of 20", 0, () -> full.rank(0, ALL_20));
    for (int place = 0; place < 20; place++) {
      int told = place;
      Check.answers("27: place " + place + " alone", place, () -> full.rank(0, 1 << told));
      Check.answers("27: all but " + place, 19 - place, () -> full.rank(0, ALL_20 & ~(1 << told)));
    }
    Check.answers("27: the first 10", 0, () -> full.rank(0, 1023));
    Check.answers("27: the last 10", 184755, () -> full.rank(0, 1023 << 10));
    Check.answers("27: no other one has its sum", 0,
        () -> Check.with(1, 2, 4, 8, 16, 32, 64, 120, 53).rank(0, 511));
  }

  private static void promise27IsTheOtherWayRound() {
    for (int choice = 0; choice < 256; choice++) {
      int told = choice;
      Sumhoard x = Check.with(1, 1, 2, 3, 5, 8, 13, 21);
      Check.answers("27, 26: choice " + choice, choice,
          () -> x.choice(0, x.sumOf(0, told), x.rank(0, told)));
    }
  }

  private static void promise28TheSumOfAChoice() {
    Check.answers("28: none of none", 0, () -> new Sumhoard().sumOf(1, 0));
    Sumhoard full = full();
    Check.answers("28: none of 20", 0, () -> full.sumOf(0, 0));
    Check.answers("28: all of 20", 300, () -> full.sumOf(0, ALL_20));
    Sumhoard x = Check.with(1, 2, 3, 4, 5, 6, 7, 8, 9, 10, 11, 12, 13, 14, 15, 16, 17, 18, 19, 20);
    for (int place = 0; place < 20; place++) {
      int told = place;
      Check.answers("28: place " + place + " alone", place + 1, () -> x.sumOf(0, 1 << told));
    }
  }

  private static void promise29ByThePlacesAlone() {
    Check.answers("29: none of none", 1, () -> new Sumhoard().partSums(1, 0));
    Check.answers("29: none of 20", 1, () -> full().partSums(0, 0));
    Check.answers("29: all of 20", 21, () -> full().partSums(0, ALL_20));
    Sumhoard x = Check.with(1, 2, 4, 8, 16, 32, 64, 120, 53);
    Check.answers("29: all 301", 301, () -> x.partSums(0, 511));
    Check.answers("29: the last alone", 2, () -> x.partSums(0, 256));
    Check.answers("29: all but the last", 248, () -> x.partSums(0, 255));
    Check.answers("29: the hoard has its sums still", 301, () -> x.sums(0, false));
  }
}
