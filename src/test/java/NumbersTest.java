/** Promises 1 to 12, with answers worked out by hand. */
final class NumbersTest {
  private static final Class<IndexOutOfBoundsException> NO_PLACE = IndexOutOfBoundsException.class;
  private static final Class<IllegalArgumentException> NO_VALUE = IllegalArgumentException.class;
  private static final Class<IllegalStateException> NO_ROOM = IllegalStateException.class;
  private static final int[] WRONG_HOARDS = {-1, 2, 3, Integer.MIN_VALUE, Integer.MAX_VALUE};
  private static final int[] WRONG_NUMBERS =
      {0, -1, 121, 300, 1 << 16, Integer.MIN_VALUE, Integer.MAX_VALUE};

  private NumbersTest() {
  }

  static void run() {
    promise1New();
    promise2Add();
    promise2AddLimits();
    promise3Insert();
    promise3InsertLimits();
    promise4TakeOut();
    promise5Exchange();
    promise6Move();
    promise7Sort();
    promise8Clear();
    promise9Join();
    promise9JoinLimits();
    promise10Size();
    promise11Number();
    promise12Total();
  }

  private static void promise1New() {
    Sumhoard x = new Sumhoard();
    for (int hoard = 0; hoard < 2; hoard++) {
      int told = hoard;
      Check.answers("1: size of new hoard " + hoard, 0, () -> x.size(told));
      Check.answers("1: total of new hoard " + hoard, 0, () -> x.total(told));
      Check.answers("1: sums of new hoard " + hoard, 1, () -> x.sums(told, false));
    }
    Sumhoard other = new Sumhoard();
    other.add(0, 9);
    Check.answers("1: objects are apart", 0, () -> x.size(0));
  }

  private static void promise2Add() {
    Sumhoard x = new Sumhoard();
    Check.answers("2: add 3", 2, () -> x.add(0, 3));
    Check.answers("2: add 5", 4, () -> x.add(0, 5));
    Check.answers("2: add 5 again", 6, () -> x.add(0, 5));
    Check.answers("2: add 8", 10, () -> x.add(0, 8));
    Check.answers("2: add 1, the least", 2, () -> x.add(1, 1));
    Check.answers("2: add 120, the greatest", 4, () -> x.add(1, 120));
    Check.same("2: behind the others", "3,5,5,8", Check.numbersOf(x, 0));
    Check.same("2: in its hoard alone", "1,120", Check.numbersOf(x, 1));
    for (int wrong : WRONG_HOARDS) {
      Check.refuses("2: add to " + wrong, NO_PLACE, x, () -> x.add(wrong, 0));
    }
    for (int wrong : WRONG_NUMBERS) {
      Check.refuses("2: add " + wrong, NO_VALUE, x, () -> x.add(0, wrong));
    }
  }

  private static void promise2AddLimits() {
    Sumhoard heavy = Check.with(120, 120);
    Check.refuses("2: 301 together", NO_ROOM, heavy, () -> heavy.add(0, 61));
    Check.answers("2: 300 together", 6, () -> heavy.add(0, 60));
    Check.refuses("2: 1 more than 300", NO_ROOM, heavy, () -> heavy.add(0, 1));
    Check.refuses("2: a wrong number first", NO_VALUE, heavy, () -> heavy.add(0, 121));
    Sumhoard long20 = Check.with(Check.repeated(1, 19));
    Check.answers("2: the 20th", 21, () -> long20.add(0, 1));
    Check.refuses("2: the 21st", NO_ROOM, long20, () -> long20.add(0, 1));
    Check.refuses("2: the 21st, 0", NO_VALUE, long20, () -> long20.add(0, 0));
    Check.answers("2: the other hoard has room", 2, () -> long20.add(1, 1));
  }

  private static void promise3Insert() {
    Sumhoard x = new Sumhoard();
    Check.answers("3: into none", 2, () -> x.insert(0, 0, 8));
    Check.answers("3: to the front", 4, () -> x.insert(0, 0, 3));
    Check.answers("3: behind the last", 7, () -> x.insert(0, 2, 5));
    Check.answers("3: between", 10, () -> x.insert(0, 1, 5));
    Check.same("3: the places", "3,5,8,5", Check.numbersOf(x, 0));
    for (int wrong : WRONG_HOARDS) {
      Check.refuses("3: into " + wrong, NO_PLACE, x, () -> x.insert(wrong, 0, 0));
    }
    for (int wrong : new int[] {-1, 5, 20, Integer.MIN_VALUE, Integer.MAX_VALUE}) {
      Check.refuses("3: to place " + wrong, NO_PLACE, x, () -> x.insert(0, wrong, 0));
    }
    for (int wrong : WRONG_NUMBERS) {
      Check.refuses("3: number " + wrong, NO_VALUE, x, () -> x.insert(0, 1, wrong));
    }
    Check.refuses("3: the other hoard has no place 1", NO_PLACE, x, () -> x.insert(1, 1, 7));
  }

  private static void promise3InsertLimits() {
    Sumhoard heavy = Check.with(120, 120, 59);
    Check.refuses("3: 301 together", NO_ROOM, heavy, () -> heavy.insert(0, 0, 2));
    Check.answers("3: 300 together", 12, () -> heavy.insert(0, 0, 1));
    Sumhoard full = Check.with(Check.repeated(2, 20));
    Check.refuses("3: the 21st to the front", NO_ROOM, full, () -> full.insert(0, 0, 1));
    Check.refuses("3: the 21st to the end", NO_ROOM, full, () -> full.insert(0, 20, 1));
    Check.refuses("3: place 21 of 20", NO_PLACE, full, () -> full.insert(0, 21, 1));
    Check.refuses("3: a wrong number first", NO_VALUE, full, () -> full.insert(0, 20, 0));
  }

  private static void promise4TakeOut() {
    Sumhoard x = Check.with(3, 5, 5, 8);
    Check.answers("4: take 5 of 3,5,5,8", 3, () -> x.takeOut(0, 1));
    Check.same("4: those behind move back", "3,5,8", Check.numbersOf(x, 0));
    Check.answers("4: take the last", 3, () -> x.takeOut(0, 2));
    Check.answers("4: take the first", 2, () -> x.takeOut(0, 0));
    Check.answers("4: take the only one", 1, () -> x.takeOut(0, 0));
    Check.refuses("4: out of none", NO_PLACE, x, () -> x.takeOut(0, 0));
    Sumhoard full = Check.with(Check.repeated(15, 20));
    Check.answers("4: take place 19", 1, () -> full.takeOut(0, 19));
    Check.answers("4: 19 are left", 19, () -> full.size(0));
    for (int wrong : new int[] {-1, 19, 20, Integer.MIN_VALUE, Integer.MAX_VALUE}) {
      Check.refuses("4: place " + wrong, NO_PLACE, full, () -> full.takeOut(0, wrong));
    }
    for (int wrong : WRONG_HOARDS) {
      Check.refuses("4: hoard " + wrong, NO_PLACE, full, () -> full.takeOut(wrong, 0));
    }
  }

  private static void promise5Exchange() {
    Sumhoard x = Check.with(120, 100, 80);
    Check.refuses("5: 301 together", NO_ROOM, x, () -> x.exchange(0, 1, 101));
    Check.answers("5: by itself, still 300", 80, () -> x.exchange(0, 2, 80));
    Check.answers("5: by a lesser one", 100, () -> x.exchange(0, 1, 1));
    Check.same("5: in its place", "120,1,80", Check.numbersOf(x, 0));
    Check.answers("5: back to 300", 1, () -> x.exchange(0, 1, 100));
    Check.refuses("5: a wrong number before the 300", NO_VALUE, x, () -> x.exchange(0, 1, 121));
    for (int wrong : WRONG_NUMBERS) {
      Check.refuses("5: number " + wrong, NO_VALUE, x, () -> x.exchange(0, 0, wrong));
    }
    for (int wrong : new int[] {-1, 3, Integer.MIN_VALUE, Integer.MAX_VALUE}) {
      Check.refuses("5: place " + wrong, NO_PLACE, x, () -> x.exchange(0, wrong, 0));
    }
    for (int wrong : WRONG_HOARDS) {
      Check.refuses("5: hoard " + wrong, NO_PLACE, x, () -> x.exchange(wrong, 0, 0));
    }
    Sumhoard full = Check.with(Check.repeated(1, 20));
    Check.answers("5: 20 numbers are no hindrance", 1, () -> full.exchange(0, 19, 120));
    Check.answers("5: its total then", 139, () -> full.total(0));
  }

  private static void promise6Move() {
    Sumhoard x = Check.with(1, 2, 3, 4, 5);
    Check.answers("6: forth", 2, () -> x.move(0, 1, 3));
    Check.same("6: forth, the places", "1,3,4,2,5", Check.numbersOf(x, 0));
    Check.answers("6: back", 5, () -> x.move(0, 4, 0));
    Check.same("6: back, the places", "5,1,3,4,2", Check.numbersOf(x, 0));
    Check.answers("6: to the end", 5, () -> x.move(0, 0, 4));
    Check.answers("6: to where it stands", 3, () -> x.move(0, 1, 1));
    Check.same("6: the places at last", "1,3,4,2,5", Check.numbersOf(x, 0));
    for (int wrong : new int[] {-1, 5, Integer.MIN_VALUE, Integer.MAX_VALUE}) {
      Check.refuses("6: from " + wrong, NO_PLACE, x, () -> x.move(0, wrong, 0));
      Check.refuses("6: to " + wrong, NO_PLACE, x, () -> x.move(0, 0, wrong));
    }
    for (int wrong : WRONG_HOARDS) {
      Check.refuses("6: hoard " + wrong, NO_PLACE, x, () -> x.move(wrong, 0, 0));
    }
    Check.refuses("6: a hoard without numbers", NO_PLACE, x, () -> x.move(1, 0, 0));
    Sumhoard full = Check.with(1, 2, 3, 4, 5, 6, 7, 8, 9, 10, 11, 12, 13, 14, 15, 16, 17, 18, 19, 20);
    Check.answers("6: the first of 20 to the end", 1, () -> full.move(0, 0, 19));
    Check.same("6: 20 moved", "2,3,4,5,6,7,8,9,10,11,12,13,14,15,16,17,18,19,20,1",
        Check.numbersOf(full, 0));
  }

  private static void promise7Sort() {
    Sumhoard x = Check.with(5, 3, 5, 1, 5);
    Check.answers("7: sort 5,3,5,1,5", 2, () -> x.sort(0));
    Check.same("7: the places", "1,3,5,5,5", Check.numbersOf(x, 0));
    Check.answers("7: sorted already", 0, () -> x.sort(0));
    Check.answers("7: a hoard without numbers", 0, () -> x.sort(1));
    Sumhoard down = Check.with(24, 23, 22, 21, 20, 19, 18, 17, 16, 15, 14, 13, 12, 11, 10, 9, 8, 7, 6, 5);
    Check.answers("7: 20 numbers the other way round, sum 290", 20, () -> down.sort(0));
    Check.same("7: the 20 places", "5,6,7,8,9,10,11,12,13,14,15,16,17,18,19,20,21,22,23,24",
        Check.numbersOf(down, 0));
    for (int wrong : WRONG_HOARDS) {
      Check.refuses("7: hoard " + wrong, NO_PLACE, x, () -> x.sort(wrong));
    }
  }

  private static void promise8Clear() {
    Sumhoard x = Check.withBoth(Check.repeated(15, 20), new int[] {7});
    Check.answers("8: clear 20", 20, () -> x.clear(0));
    Check.answers("8: none is left", 0, () -> x.size(0));
    Check.answers("8: no total is left", 0, () -> x.total(0));
    Check.same("8: the other hoard stays", "7", Check.numbersOf(x, 1));
    Check.answers("8: clear none", 0, () -> x.clear(0));
    Check.answers("8: there is room then", 2, () -> x.add(0, 120));
    for (int wrong : WRONG_HOARDS) {
      Check.refuses("8: hoard " + wrong, NO_PLACE, x, () -> x.clear(wrong));
    }
  }

  private static void promise9Join() {
    Sumhoard x = Check.withBoth(new int[] {4, 9}, new int[] {5, 8, 13});
    Check.answers("9: into the first", 20, () -> x.join(0, 1, 0));
    Check.same("9: one behind the other", "4,9,5,8,13", Check.numbersOf(x, 0));
    Check.same("9: the other one stays", "5,8,13", Check.numbersOf(x, 1));
    Sumhoard y = Check.withBoth(new int[] {1}, new int[] {2, 4});
    Check.answers("9: into the other", 8, () -> y.join(0, 1, 1));
    Check.same("9: into the other, its numbers", "1,2,4", Check.numbersOf(y, 1));
    Check.answers("9: itself twice, into itself", 15, () -> y.join(1, 1, 1));
    Check.same("9: itself twice, its numbers", "1,2,4,1,2,4", Check.numbersOf(y, 1));
    Check.answers("9: back in front", 16, () -> y.join(1, 0, 0));
    Check.same("9: back in front, its numbers", "1,2,4,1,2,4,1", Check.numbersOf(y, 0));
    Sumhoard none = Check.with(7, 7);
    Check.answers("9: none and none", 1, () -> none.join(1, 1, 0));
    Check.same("9: none is left", "", Check.numbersOf(none, 0));
  }

  private static void promise9JoinLimits() {
    Sumhoard tens = Check.withBoth(Check.repeated(1, 10), Check.repeated(2, 10));
    Check.answers("9: 20 together", 31, () -> tens.join(0, 1, 1));
    Check.refuses("9: 30 together", NO_ROOM, tens, () -> tens.join(0, 1, 0));
    Check.refuses("9: no hoard first", NO_PLACE, tens, () -> tens.join(0, 1, 2));
    Sumhoard heavy = Check.withBoth(new int[] {120, 30}, new int[] {120, 31});
    Check.refuses("9: 301 together", NO_ROOM, heavy, () -> heavy.join(0, 1, 0));
    Check.answers("9: 300 together", 9, () -> heavy.join(0, 0, 1));
    for (int wrong : WRONG_HOARDS) {
      Check.refuses("9: first " + wrong, NO_PLACE, heavy, () -> heavy.join(wrong, 1, 0));
      Check.refuses("9: other " + wrong, NO_PLACE, heavy, () -> heavy.join(1, wrong, 0));
      Check.refuses("9: into " + wrong, NO_PLACE, heavy, () -> heavy.join(0, 0, wrong));
    }
  }

  private static void promise10Size() {
    Sumhoard x = Check.withBoth(new int[] {9, 9, 9}, Check.repeated(1, 20));
    Check.answers("10: size 3", 3, () -> x.size(0));
    Check.answers("10: size 20", 20, () -> x.size(1));
    for (int wrong : WRONG_HOARDS) {
      Check.refuses("10: hoard " + wrong, NO_PLACE, x, () -> x.size(wrong));
    }
  }

  private static void promise11Number() {
    Sumhoard x = Check.withBoth(new int[] {120, 1, 7}, new int[] {2});
    Check.answers("11: place 0", 120, () -> x.number(0, 0));
    Check.answers("11: place 2", 7, () -> x.number(0, 2));
    Check.answers("11: of hoard 1", 2, () -> x.number(1, 0));
    Check.refuses("11: place 1 of one", NO_PLACE, x, () -> x.number(1, 1));
    for (int wrong : new int[] {-1, 3, 19, 20, Integer.MIN_VALUE, Integer.MAX_VALUE}) {
      Check.refuses("11: place " + wrong, NO_PLACE, x, () -> x.number(0, wrong));
    }
    for (int wrong : WRONG_HOARDS) {
      Check.refuses("11: hoard " + wrong, NO_PLACE, x, () -> x.number(wrong, 0));
    }
    x.takeOut(0, 0);
    Check.refuses("11: what was taken out is gone", NO_PLACE, x, () -> x.number(0, 2));
  }

  private static void promise12Total() {
    Sumhoard x = Check.withBoth(new int[] {120, 120, 60}, new int[] {3, 5, 5, 8});
    Check.answers("12: total 300", 300, () -> x.total(0));
    Check.answers("12: total 21", 21, () -> x.total(1));
    for (int wrong : WRONG_HOARDS) {
      Check.refuses("12: hoard " + wrong, NO_PLACE, x, () -> x.total(wrong));
    }
  }
}
