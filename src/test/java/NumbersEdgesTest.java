import java.util.Arrays;

/** Promises 1 to 12 at their edges, sentence by sentence: empty, full, 300 together, the same. */
final class NumbersEdgesTest {
  private static final Class<IndexOutOfBoundsException> NO_PLACE = IndexOutOfBoundsException.class;
  private static final Class<IllegalArgumentException> NO_VALUE = IllegalArgumentException.class;
  private static final Class<IllegalStateException> NO_ROOM = IllegalStateException.class;
  private static final int[] NONE = {};
  private static final int[] UP_20 =
      {1, 2, 3, 4, 5, 6, 7, 8, 9, 10, 11, 12, 13, 14, 15, 16, 17, 18, 19, 20};

  private NumbersEdgesTest() {
  }

  static void run() {
    promise1BothHaveNoNumbers();
    promise2PutsBehindTheOthers();
    promise2ReturnsHowManySumsThen();
    promise2ThrowsIfThereAre20();
    promise2ThrowsIfMoreThan300();
    promise3PutsToAPlace();
    promise3ThrowsIfThereAre20();
    promise3ThrowsIfMoreThan300();
    promise4ThoseBehindMoveBack();
    promise4ReturnsHowManyFewer();
    promise5ReturnsWhatWasThere();
    promise5ThrowsIfMoreThan300();
    promise5TwentyAreNoHindrance();
    promise6StandsAtTheOtherPlace();
    promise7SortsTheLeastFirst();
    promise7ReturnsHowManyUnlike();
    promise8ReturnsHowManyTheyWere();
    promise9GivesOneAndBehindItTheOther();
    promise9InPlaceOfItsOwn();
    promise9HoardsCanBeTheSame();
    promise9ThrowsIfMoreThan20();
    promise9ThrowsIfMoreThan300();
    promise9NoHoardComesFirst();
    promises10To12();
  }

  private static void promise1BothHaveNoNumbers() {
    Sumhoard x = new Sumhoard();
    for (int hoard = 0; hoard < 2; hoard++) {
      int told = hoard;
      Check.same("1: no numbers", "", Check.numbersOf(x, told));
      Check.refuses("1: no place 0", NO_PLACE, x, () -> x.number(told, 0));
      Check.answers("1: 0 alone is made", 0, () -> x.previous(told, 300, false));
    }
  }

  private static void promise2PutsBehindTheOthers() {
    Sumhoard x = Check.withBoth(NONE, Arrays.copyOf(UP_20, 19));
    Check.answers("2: into none", 2, () -> x.add(0, 9));
    Check.same("2: into none, place 0", "9", Check.numbersOf(x, 0));
    Check.answers("2: behind 19", 192, () -> x.add(1, 1));
    Check.answers("2: behind 19, place 19", 1, () -> x.number(1, 19));
    Check.answers("2: place 18 stays", 19, () -> x.number(1, 18));
  }

  private static void promise2ReturnsHowManySumsThen() {
    Sumhoard x = Check.with(1, 2, 4, 8, 16, 32, 64, 120, 52);
    Check.answers("2: all of 299", 300, () -> x.sums(0, false));
    Check.answers("2: all of 300", 301, () -> x.add(0, 1));
    Check.answers("2: the same one again", 3, () -> Check.with(120).add(0, 120));
  }

  private static void promise2ThrowsIfThereAre20() {
    Sumhoard x = Check.with(Check.repeated(1, 19));
    Check.answers("2: the 20th", 40, () -> x.add(0, 20));
    for (int number : new int[] {1, 120}) {
      Check.refuses("2: the 21st, " + number, NO_ROOM, x, () -> x.add(0, number));
    }
    x.takeOut(0, 19);
    Check.answers("2: the 20th again", 21, () -> x.add(0, 1));
    Sumhoard full = Check.with(Check.repeated(15, 20));
    Check.refuses("2: 20 numbers and 300 together", NO_ROOM, full, () -> full.add(0, 1));
  }

  private static void promise2ThrowsIfMoreThan300() {
    Sumhoard x = Check.withBoth(new int[] {120, 61}, new int[] {120, 60});
    Check.refuses("2: 181 and 120", NO_ROOM, x, () -> x.add(0, 120));
    Check.answers("2: 180 and 120", 6, () -> x.add(1, 120));
    Check.answers("2: 181 and 119", 8, () -> x.add(0, 119));
    Check.refuses("2: 300 and 1", NO_ROOM, x, () -> x.add(0, 1));
    Check.refuses("2: 300 and 1 in hoard 1", NO_ROOM, x, () -> x.add(1, 1));
  }

  private static void promise3PutsToAPlace() {
    Sumhoard x = Check.withBoth(Arrays.copyOf(UP_20, 19), Arrays.copyOf(UP_20, 19));
    Check.answers("3: in front of 19", 211, () -> x.insert(0, 0, 20));
    Check.same("3: in front of 19, the places", "20,1,2,3,4,5,6,7,8,9,10,11,12,13,14,15,16,17,18,19",
        Check.numbersOf(x, 0));
    Check.answers("3: behind 19", 192, () -> x.insert(1, 19, 1));
    Check.same("3: behind 19, the places", "1,2,3,4,5,6,7,8,9,10,11,12,13,14,15,16,17,18,19,1",
        Check.numbersOf(x, 1));
    Sumhoard one = Check.with(7);
    Check.answers("3: in front of one", 3, () -> one.insert(0, 0, 7));
    Check.answers("3: behind two", 6, () -> one.insert(0, 2, 8));
    Check.same("3: the places", "7,7,8", Check.numbersOf(one, 0));
  }

  private static void promise3ThrowsIfThereAre20() {
    Sumhoard x = Check.withBoth(NONE, Check.repeated(1, 19));
    Check.answers("3: the 20th", 21, () -> x.insert(1, 7, 1));
    for (int place : new int[] {0, 19, 20}) {
      Check.refuses("3: the 21st at " + place, NO_ROOM, x, () -> x.insert(1, place, 1));
      Check.refuses("3: 0 before the 21st", NO_VALUE, x, () -> x.insert(1, place, 0));
    }
    Check.refuses("3: place 21 before the 21st", NO_PLACE, x, () -> x.insert(1, 21, 1));
    Check.answers("3: the other hoard has room", 2, () -> x.insert(0, 0, 1));
  }

  private static void promise3ThrowsIfMoreThan300() {
    Sumhoard x = Check.with(120, 61);
    Check.refuses("3: 181 and 120", NO_ROOM, x, () -> x.insert(0, 0, 120));
    Check.answers("3: 181 and 119", 8, () -> x.insert(0, 1, 119));
    Check.refuses("3: 300 and 1", NO_ROOM, x, () -> x.insert(0, 3, 1));
    Check.refuses("3: 121 before the 300", NO_VALUE, x, () -> x.insert(0, 3, 121));
    Check.refuses("3: place 4 before the 300", NO_PLACE, x, () -> x.insert(0, 4, 1));
  }

  private static void promise4ThoseBehindMoveBack() {
    Sumhoard x = Check.withBoth(UP_20, UP_20);
    Check.answers("4: the first of 20", 3, () -> x.takeOut(0, 0));
    Check.same("4: the first of 20, the places", "2,3,4,5,6,7,8,9,10,11,12,13,14,15,16,17,18,19,20",
        Check.numbersOf(x, 0));
    Check.answers("4: the last of 20", 20, () -> x.takeOut(1, 19));
    Check.same("4: the last of 20, the places", "1,2,3,4,5,6,7,8,9,10,11,12,13,14,15,16,17,18,19",
        Check.numbersOf(x, 1));
  }

  private static void promise4ReturnsHowManyFewer() {
    Sumhoard dense = Check.with(1, 2, 4, 8, 16, 32, 64, 120, 53);
    Check.answers("4: 301 to 181", 120, () -> dense.takeOut(0, 7));
    Check.answers("4: one fewer at least", 1, () -> Check.with(7, 7).takeOut(0, 0));
    Sumhoard one = Check.with(120);
    Check.answers("4: the only one", 1, () -> one.takeOut(0, 0));
    Check.answers("4: 0 is still made", 1, () -> one.sums(0, false));
    Check.refuses("4: none is left", NO_PLACE, one, () -> one.takeOut(0, 0));
  }

  private static void promise5ReturnsWhatWasThere() {
    Sumhoard x = Check.withBoth(new int[] {3, 5, 8}, new int[] {9});
    Check.answers("5: the least", 3, () -> x.exchange(0, 0, 1));
    Check.answers("5: the greatest", 8, () -> x.exchange(0, 2, 120));
    Check.answers("5: by the same", 5, () -> x.exchange(0, 1, 5));
    Check.same("5: the places", "1,5,120", Check.numbersOf(x, 0));
    Check.same("5: the other hoard", "9", Check.numbersOf(x, 1));
  }

  private static void promise5ThrowsIfMoreThan300() {
    Sumhoard x = Check.with(120, 100, 79);
    Check.refuses("5: 301", NO_ROOM, x, () -> x.exchange(0, 2, 81));
    Check.answers("5: 300", 79, () -> x.exchange(0, 2, 80));
    Check.refuses("5: 301 from 300", NO_ROOM, x, () -> x.exchange(0, 2, 81));
    Check.answers("5: the same at 300", 120, () -> x.exchange(0, 0, 120));
    Check.refuses("5: 320", NO_ROOM, x, () -> x.exchange(0, 1, 120));
    Check.refuses("5: 121 before the 300", NO_VALUE, x, () -> x.exchange(0, 2, 121));
    Check.refuses("5: place 3 before the 300", NO_PLACE, x, () -> x.exchange(0, 3, 120));
    Check.refuses("5: place 3 before 121", NO_PLACE, x, () -> x.exchange(0, 3, 121));
  }

  private static void promise5TwentyAreNoHindrance() {
    Sumhoard x = Check.with(Check.repeated(15, 20));
    Check.refuses("5: 20 with 301", NO_ROOM, x, () -> x.exchange(0, 19, 16));
    Check.answers("5: 20 with 300", 15, () -> x.exchange(0, 19, 15));
    Check.answers("5: 20 with 299", 15, () -> x.exchange(0, 0, 14));
    Check.answers("5: 20 with 300 again", 15, () -> x.exchange(0, 19, 16));
    Check.answers("5: 20 numbers still", 20, () -> x.size(0));
  }

  private static void promise6StandsAtTheOtherPlace() {
    Sumhoard x = Check.withBoth(UP_20, new int[] {7});
    Check.answers("6: the first to the last", 1, () -> x.move(0, 0, 19));
    Check.same("6: the first to the last, the places",
        "2,3,4,5,6,7,8,9,10,11,12,13,14,15,16,17,18,19,20,1", Check.numbersOf(x, 0));
    Check.answers("6: the last to the first", 1, () -> x.move(0, 19, 0));
    Check.same("6: the last to the first, the places",
        "1,2,3,4,5,6,7,8,9,10,11,12,13,14,15,16,17,18,19,20", Check.numbersOf(x, 0));
    Check.answers("6: one place on", 19, () -> x.move(0, 18, 19));
    Check.answers("6: one place back", 19, () -> x.move(0, 19, 18));
    Check.answers("6: the last to itself", 20, () -> x.move(0, 19, 19));
    Check.answers("6: the first to itself", 1, () -> x.move(0, 0, 0));
    Check.same("6: all as before", "1,2,3,4,5,6,7,8,9,10,11,12,13,14,15,16,17,18,19,20",
        Check.numbersOf(x, 0));
    Check.answers("6: the only one", 7, () -> x.move(1, 0, 0));
    Check.refuses("6: no place behind the only one", NO_PLACE, x, () -> x.move(1, 0, 1));
  }

  private static void promise7SortsTheLeastFirst() {
    Sumhoard x = Check.withBoth(UP_20, new int[] {120, 1});
    for (int place = 0; place < 20; place++) {
      x.move(0, 19, place);
    }
    Check.answers("7: 20 turned", 20, () -> x.sort(0));
    Check.same("7: 20 turned, the places", "1,2,3,4,5,6,7,8,9,10,11,12,13,14,15,16,17,18,19,20",
        Check.numbersOf(x, 0));
    Check.same("7: the other hoard stays", "120,1", Check.numbersOf(x, 1));
    Check.answers("7: the greatest and the least", 2, () -> x.sort(1));
    Check.same("7: the least first", "1,120", Check.numbersOf(x, 1));
  }

  private static void promise7ReturnsHowManyUnlike() {
    Check.answers("7: none", 0, () -> new Sumhoard().sort(0));
    Check.answers("7: one", 0, () -> Check.with(120).sort(0));
    Check.answers("7: all the same", 0, () -> Check.with(Check.repeated(15, 20)).sort(0));
    Check.answers("7: sorted", 0, () -> Check.with(UP_20).sort(0));
    Check.answers("7: the last is the least", 3, () -> Check.with(2, 3, 1).sort(0));
    Check.answers("7: like ones between", 2, () -> Check.with(5, 2, 2, 2, 1).sort(0));
    Check.answers("7: the same number stands there then", 2, () -> Check.with(1, 5, 5, 1).sort(0));
  }

  private static void promise8ReturnsHowManyTheyWere() {
    Sumhoard x = Check.withBoth(UP_20, new int[] {120, 120, 60});
    Check.answers("8: 20", 20, () -> x.clear(0));
    Check.answers("8: 0", 0, () -> x.clear(0));
    Check.answers("8: 300 together", 3, () -> x.clear(1));
    Check.answers("8: 0 alone is made then", 1, () -> x.sums(1, true));
    Check.answers("8: one", 1, () -> Check.with(1).clear(0));
  }

  private static void promise9GivesOneAndBehindItTheOther() {
    Sumhoard x = Check.withBoth(NONE, new int[] {9, 4});
    Check.answers("9: none in front", 4, () -> x.join(0, 1, 0));
    Check.same("9: none in front, the places", "9,4", Check.numbersOf(x, 0));
    x.clear(1);
    Check.answers("9: none behind", 4, () -> x.join(0, 1, 1));
    Check.same("9: none behind, the places", "9,4", Check.numbersOf(x, 1));
    Sumhoard none = new Sumhoard();
    Check.answers("9: none and none", 1, () -> none.join(0, 1, 0));
    Check.answers("9: none and none, no numbers", 0, () -> none.size(0));
  }

  private static void promise9InPlaceOfItsOwn() {
    Sumhoard x = Check.withBoth(new int[] {120, 30}, UP_20);
    Check.answers("9: its own 20 are gone", 9, () -> x.join(0, 0, 1));
    Check.same("9: its own 20 are gone, the places", "120,30,120,30", Check.numbersOf(x, 1));
    Sumhoard y = Check.withBoth(NONE, UP_20);
    Check.answers("9: none in place of 20", 1, () -> y.join(0, 0, 1));
    Check.same("9: none in place of 20, the places", "", Check.numbersOf(y, 1));
  }

  /** All is read ahead of what is written, whichever of the three are the same. */
  private static void promise9HoardsCanBeTheSame() {
    String[] due = {
      "1,2,1,2 | 4", "1,2 | 1,2,1,2", "1,2,4 | 4", "1,2 | 1,2,4",
      "4,1,2 | 4", "1,2 | 4,1,2", "4,4 | 4", "1,2 | 4,4"
    };
    for (int told = 0; told < due.length; told++) {
      Sumhoard x = Check.withBoth(new int[] {1, 2}, new int[] {4});
      x.join(told >> 2, told >> 1 & 1, told & 1);
      Check.same("9: join " + (told >> 2) + ", " + (told >> 1 & 1) + ", " + (told & 1), due[told],
          Check.numbersOf(x, 0) + " | " + Check.numbersOf(x, 1));
    }
  }

  private static void promise9ThrowsIfMoreThan20() {
    Sumhoard x = Check.withBoth(Check.repeated(1, 10), Check.repeated(2, 11));
    for (int into = 0; into < 2; into++) {
      int told = into;
      Check.refuses("9: 10 and 11", NO_ROOM, x, () -> x.join(0, 1, told));
      Check.refuses("9: 11 and 10", NO_ROOM, x, () -> x.join(1, 0, told));
      Check.refuses("9: 11 and 11", NO_ROOM, x, () -> x.join(1, 1, told));
    }
    Check.answers("9: 10 and 10", 21, () -> x.join(0, 0, 0));
    Check.refuses("9: 20 and 11", NO_ROOM, x, () -> x.join(0, 1, 1));
    x.clear(1);
    Check.answers("9: 20 and none", 21, () -> x.join(0, 1, 0));
    Check.answers("9: none and 20", 21, () -> x.join(1, 0, 0));
    x.add(1, 1);
    Check.refuses("9: 20 and 1", NO_ROOM, x, () -> x.join(0, 1, 0));
    Check.refuses("9: 1 and 20", NO_ROOM, x, () -> x.join(1, 0, 1));
  }

  private static void promise9ThrowsIfMoreThan300() {
    Sumhoard x = Check.withBoth(new int[] {120, 30}, new int[] {120, 31});
    for (int into = 0; into < 2; into++) {
      int told = into;
      Check.refuses("9: 150 and 151", NO_ROOM, x, () -> x.join(0, 1, told));
      Check.refuses("9: 151 and 150", NO_ROOM, x, () -> x.join(1, 0, told));
      Check.refuses("9: 151 and 151", NO_ROOM, x, () -> x.join(1, 1, told));
    }
    Check.answers("9: 150 and 150", 9, () -> x.join(0, 0, 0));
    x.clear(1);
    Check.answers("9: 300 and none", 9, () -> x.join(0, 1, 0));
    x.add(1, 1);
    Check.refuses("9: 300 and 1", NO_ROOM, x, () -> x.join(0, 1, 0));
    Check.refuses("9: 1 and 300", NO_ROOM, x, () -> x.join(1, 0, 1));
    Sumhoard full = Check.with(Check.repeated(15, 20));
    Check.refuses("9: 40, and 600 together", NO_ROOM, full, () -> full.join(0, 0, 1));
  }

  private static void promise9NoHoardComesFirst() {
    Sumhoard x = Check.with(Check.repeated(15, 20));
    for (int wrong : new int[] {-1, 2}) {
      Check.refuses("9: hoard " + wrong + " before the room", NO_PLACE, x, () -> x.join(wrong, 0, 1));
      Check.refuses("9: other " + wrong + " before the room", NO_PLACE, x, () -> x.join(0, wrong, 1));
      Check.refuses("9: into " + wrong + " before the room", NO_PLACE, x, () -> x.join(0, 0, wrong));
    }
  }

  private static void promises10To12() {
    Sumhoard x = Check.withBoth(NONE, Check.repeated(15, 20));
    Check.answers("10: none", 0, () -> x.size(0));
    Check.answers("10: 20", 20, () -> x.size(1));
    Check.answers("11: place 0 of 20", 15, () -> x.number(1, 0));
    Check.answers("11: place 19 of 20", 15, () -> x.number(1, 19));
    Check.refuses("11: place 20 of 20", NO_PLACE, x, () -> x.number(1, 20));
    Check.refuses("11: place 0 of none", NO_PLACE, x, () -> x.number(0, 0));
    Check.answers("12: none", 0, () -> x.total(0));
    Check.answers("12: 300", 300, () -> x.total(1));
  }
}
