import java.util.NoSuchElementException;

/**
 * Each limit that the document sets to an argument, at each call that has it: the last value inside
 * is taken, the first one outside is refused, also where exceptions documented later apply as well.
 */
final class LimitsTest {
  private static final Class<IndexOutOfBoundsException> NO_PLACE = IndexOutOfBoundsException.class;
  private static final Class<IllegalArgumentException> NO_VALUE = IllegalArgumentException.class;
  private static final Class<IllegalStateException> NO_ROOM = IllegalStateException.class;
  private static final Class<NoSuchElementException> NONE = NoSuchElementException.class;
  private static final int LEAST = Integer.MIN_VALUE;
  private static final int GREATEST = Integer.MAX_VALUE;
  private static final int[] SIZES = {0, 1, 2, 19, 20};

  /** A call of an object, one of its arguments left open. */
  interface Open {
    Object answer(Sumhoard x, int told);
  }

  /** A call of one hoard of an object, one more argument left open. */
  interface OpenOfHoard {
    Object answer(Sumhoard x, int hoard, int told);
  }

  private LimitsTest() {
  }

  static void run() {
    hoardsOfNumbers();
    hoardsOfSums();
    hoardsOfChoices();
    hoardsOfTwo();
    hoardsOfTheorem();
    places();
    placesToInsert();
    numbers();
    sums();
    sumsWithoutAnswer();
    manies();
    choices();
    choicesOneByOne();
    signs();
  }

  /** The right call has all other arguments right, the wrong one none of them. */
  private static void hoards(String name, Open right, Open wrong) {
    for (int inside : new int[] {0, 1}) {
      Sumhoard x = Check.withBoth(new int[] {3, 5, 5, 8}, new int[] {6, 10, 15});
      Check.taken(name + ", hoard " + inside, () -> right.answer(x, inside));
    }
    Sumhoard x = Check.withBoth(new int[] {3, 5, 5, 8}, new int[] {6, 10, 15});
    for (int outside : new int[] {-1, 2, LEAST, GREATEST}) {
      String told = name + ", hoard " + outside;
      Check.refuses(told, NO_PLACE, x, () -> right.answer(x, outside));
      Check.refuses(told + " first", NO_PLACE, x, () -> wrong.answer(x, outside));
    }
  }

  private static void hoards(String name, Open right) {
    hoards(name, right, right);
  }

  private static void hoardsOfNumbers() {
    hoards("2: add", (x, h) -> x.add(h, 1), (x, h) -> x.add(h, 121));
    hoards("3: insert", (x, h) -> x.insert(h, 0, 1), (x, h) -> x.insert(h, -1, 0));
    hoards("4: takeOut", (x, h) -> x.takeOut(h, 0), (x, h) -> x.takeOut(h, 4));
    hoards("5: exchange", (x, h) -> x.exchange(h, 0, 1), (x, h) -> x.exchange(h, -1, 121));
    hoards("6: move", (x, h) -> x.move(h, 0, 2), (x, h) -> x.move(h, -1, 4));
    hoards("7: sort", (x, h) -> x.sort(h));
    hoards("8: clear", (x, h) -> x.clear(h));
    hoards("9: join", (x, h) -> x.join(h, 1, 0), (x, h) -> x.join(h, -1, 2));
    hoards("9: join, other", (x, h) -> x.join(0, h, 0), (x, h) -> x.join(0, h, 2));
    hoards("9: join, into", (x, h) -> x.join(0, 1, h));
    hoards("10: size", (x, h) -> x.size(h));
    hoards("11: number", (x, h) -> x.number(h, 0), (x, h) -> x.number(h, 4));
    hoards("12: total", (x, h) -> x.total(h));
  }

  private static void hoardsOfSums() {
    for (boolean often : new boolean[] {false, true}) {
      hoards("13: isSum", (x, h) -> x.isSum(h, 0, often), (x, h) -> x.isSum(h, 301, often));
      hoards("14: sums", (x, h) -> x.sums(h, often));
      hoards("15: next", (x, h) -> x.next(h, 0, often), (x, h) -> x.next(h, 301, often));
      hoards("16: previous", (x, h) -> x.previous(h, 0, often), (x, h) -> x.previous(h, -1, often));
      hoards("17: gap", (x, h) -> x.gap(h, 0, often), (x, h) -> x.gap(h, 301, often));
      hoards("18: lastGap", (x, h) -> x.lastGap(h, often));
      hoards("19: ways", (x, h) -> x.ways(h, 0, often), (x, h) -> x.ways(h, -1, often));
      hoards("21: fewest", (x, h) -> x.fewest(h, 0, often), (x, h) -> x.fewest(h, 301, often));
    }
    hoards("20: most", (x, h) -> x.most(h));
    hoards("22: withMany", (x, h) -> x.withMany(h, 0), (x, h) -> x.withMany(h, 21));
    hoards("23: fair", (x, h) -> x.fair(h));
    hoards("24: share", (x, h) -> x.share(h));
    hoards("25: meanWays", (x, h) -> x.meanWays(h));
  }

  private static void hoardsOfChoices() {
    hoards("26: choice", (x, h) -> x.choice(h, 0, 0), (x, h) -> x.choice(h, 301, -1));
    hoards("27: rank", (x, h) -> x.rank(h, 0), (x, h) -> x.rank(h, -1));
    hoards("28: sumOf", (x, h) -> x.sumOf(h, 0), (x, h) -> x.sumOf(h, -1));
    hoards("29: partSums", (x, h) -> x.partSums(h, 0), (x, h) -> x.partSums(h, -1));
  }

  private static void hoardsOfTwo() {
    hoards("30: compare", (x, h) -> x.compare(h, 1, '&'), (x, h) -> x.compare(h, 2, '+'));
    hoards("30: compare, other", (x, h) -> x.compare(1, h, '-'), (x, h) -> x.compare(1, h, '+'));
    hoards("31: isLike", (x, h) -> x.isLike(h, 1), (x, h) -> x.isLike(h, 2));
    hoards("31: isLike, other", (x, h) -> x.isLike(1, h));
    hoards("32: together", (x, h) -> x.together(h, 1, 0), (x, h) -> x.together(h, 2, 301));
    hoards("32: together, other", (x, h) -> x.together(1, h, 0), (x, h) -> x.together(1, h, -1));
  }

  private static void hoardsOfTheorem() {
    hoards("33: isParted", (x, h) -> x.isParted(h, 0), (x, h) -> x.isParted(h, -1));
    hoards("34: isAll", (x, h) -> x.isAll(h, 0), (x, h) -> x.isAll(h, -1));
    hoards("35: isLeft", (x, h) -> x.isLeft(h, 0), (x, h) -> x.isLeft(h, -1));
    hoards("36: isOftenAlike", (x, h) -> x.isOftenAlike(h));
  }

  /** One hoard has so many numbers, the other one not, so that its places must not count. */
  private static Sumhoard sized(int hoard, int size) {
    int[] told = Check.repeated(2, size);
    int[] other = Check.repeated(2, size < 10 ? size + 3 : size - 3);
    return hoard == 0 ? Check.withBoth(told, other) : Check.withBoth(other, told);
  }

  private static void places() {
    places("4: takeOut", (x, h, p) -> x.takeOut(h, p));
    places("5: exchange", (x, h, p) -> x.exchange(h, p, 1));
    places("6: move", (x, h, p) -> x.move(h, p, 0));
    places("6: move, to", (x, h, p) -> x.move(h, 0, p));
    places("11: number", (x, h, p) -> x.number(h, p));
    places("35: isLeft", (x, h, p) -> x.isLeft(h, p));
    for (int number : new int[] {0, 121}) {
      placesOutside("5: exchange by " + number, (x, h, p) -> x.exchange(h, p, number));
    }
    placesOutside("6: move, neither", (x, h, p) -> x.move(h, p, p));
  }

  private static void places(String name, OpenOfHoard call) {
    for (int size : SIZES) {
      for (int hoard = 0; hoard < 2 && size > 0; hoard++) {
        int h = hoard;
        Check.taken(name + " at 0 of " + size, () -> call.answer(sized(h, size), h, 0));
        Check.taken(name + " at the last of " + size,
            () -> call.answer(sized(h, size), h, size - 1));
      }
    }
    placesOutside(name, call);
  }

  private static void placesOutside(String name, OpenOfHoard call) {
    for (int size : SIZES) {
      for (int hoard = 0; hoard < 2; hoard++) {
        int h = hoard;
        Sumhoard x = sized(h, size);
        for (int outside : new int[] {-1, size, LEAST, GREATEST}) {
          Check.refuses(name + " at " + outside + " of " + size, NO_PLACE, x,
              () -> call.answer(x, h, outside));
        }
      }
    }
  }

  private static void placesToInsert() {
    for (int size : SIZES) {
      for (int hoard = 0; hoard < 2; hoard++) {
        int h = hoard;
        Sumhoard full = sized(h, size);
        for (int inside : new int[] {0, size}) {
          String told = "3: insert at " + inside + " of " + size;
          Check.refuses(told + ", 0", NO_VALUE, full, () -> full.insert(h, inside, 0));
          if (size < 20) {
            Check.taken(told, () -> sized(h, size).insert(h, inside, 1));
          } else {
            Check.refuses(told, NO_ROOM, full, () -> full.insert(h, inside, 1));
          }
        }
        for (int outside : new int[] {-1, size + 1, LEAST, GREATEST}) {
          String told = "3: insert at " + outside + " of " + size;
          Check.refuses(told, NO_PLACE, full, () -> full.insert(h, outside, 1));
          Check.refuses(told + ", 0", NO_PLACE, full, () -> full.insert(h, outside, 0));
          Check.refuses(told + ", 121", NO_PLACE, full, () -> full.insert(h, outside, 121));
        }
      }
    }
  }

  private static void numbers() {
    numbers("2: add", (x, n) -> x.add(0, n));
    numbers("3: insert", (x, n) -> x.insert(0, 1, n));
    numbers("5: exchange", (x, n) -> x.exchange(0, 1, n));
  }

  private static void numbers(String name, Open call) {
    for (int inside : new int[] {1, 120}) {
      Check.taken(name + " " + inside, () -> call.answer(Check.with(7, 7), inside));
    }
    // The first has room; the others have not, for want of places or of sums.
    Sumhoard[] objects = {
      Check.with(7, 7), Check.with(Check.repeated(1, 20)), Check.with(120, 120, 60)
    };
    for (Sumhoard x : objects) {
      for (int outside : new int[] {0, 121, -1, LEAST, GREATEST}) {
        Check.refuses(name + " " + outside + " to " + Check.numbersOf(x, 0), NO_VALUE, x,
            () -> call.answer(x, outside));
      }
    }
  }

  /** Hoard 0 makes the sums 0 and 300; hoard 1 makes 0, but not 300. */
  private static Sumhoard wide() {
    return Check.withBoth(new int[] {120, 120, 60}, new int[] {3, 7});
  }

  private static void sums() {
    for (boolean often : new boolean[] {false, true}) {
      String how = often ? ", often" : ", once";
      sums("13: isSum" + how, (x, s) -> x.isSum(0, s, often));
      sums("15: next" + how, (x, s) -> x.next(0, s, often));
      sums("16: previous" + how, (x, s) -> x.previous(0, s, often));
      sums("19: ways" + how, (x, s) -> x.ways(0, s, often));
      sums("21: fewest" + how, (x, s) -> x.fewest(0, s, often));
    }
    sums("17: gap", (x, s) -> x.gap(1, s, false));
    sums("26: choice", (x, s) -> x.choice(0, s, 0));
    sums("32: together", (x, s) -> x.together(0, 1, s));
  }

  private static void sums(String name, Open call) {
    Sumhoard x = wide();
    for (int inside : new int[] {0, 300}) {
      Check.taken(name + " " + inside, () -> call.answer(x, inside));
    }
    sumsOutside(name, call);
  }

  private static void sumsOutside(String name, Open call) {
    Sumhoard x = wide();
    for (int outside : new int[] {-1, 301, LEAST, GREATEST}) {
      Check.refuses(name + " " + outside, NO_VALUE, x, () -> call.answer(x, outside));
    }
  }

  /** A told sum that is out of range comes ahead of one that is not made. */
  private static void sumsWithoutAnswer() {
    Sumhoard x = wide();
    Check.refuses("15: next, none up to 300", NONE, x, () -> x.next(1, 300, false));
    sumsOutside("15: next, none up to 300", (y, s) -> y.next(1, s, false));
    Check.refuses("17: gap, 300 is made", NONE, x, () -> x.gap(0, 300, false));
    sumsOutside("17: gap, 300 is made", (y, s) -> y.gap(0, s, false));
    sumsOutside("17: gap, 300 is made often", (y, s) -> y.gap(0, s, true));
    Check.refuses("21: fewest of 300", NONE, x, () -> x.fewest(1, 300, false));
    sumsOutside("21: fewest, not made", (y, s) -> y.fewest(1, s, false));
    Check.refuses("26: choice, rank -1", NONE, x, () -> x.choice(0, 300, -1));
    sumsOutside("26: choice, rank -1", (y, s) -> y.choice(0, s, -1));
    sumsOutside("26: choice, rank 0 of none", (y, s) -> y.choice(1, s, 0));
    sumsOutside("26: choice, rank 1000", (y, s) -> y.choice(0, s, 1000));
  }

  private static void manies() {
    Sumhoard x = wide();
    for (int inside : new int[] {0, 20}) {
      Check.taken("22: withMany " + inside, () -> x.withMany(0, inside));
    }
    for (int outside : new int[] {-1, 21, LEAST, GREATEST}) {
      Check.refuses("22: withMany " + outside, NO_VALUE, x, () -> x.withMany(0, outside));
    }
  }

  private static void choices() {
    choices("27: rank", (x, h, c) -> x.rank(h, c));
    choices("28: sumOf", (x, h, c) -> x.sumOf(h, c));
    choices("29: partSums", (x, h, c) -> x.partSums(h, c));
    choices("33: isParted", (x, h, c) -> x.isParted(h, c));
  }

  private static void choices(String name, OpenOfHoard call) {
    for (int size : SIZES) {
      for (int hoard = 0; hoard < 2; hoard++) {
        int h = hoard;
        int all = (1 << size) - 1;
        Sumhoard x = sized(h, size);
        Check.taken(name + ", none of " + size, () -> call.answer(x, h, 0));
        Check.taken(name + ", all of " + size, () -> call.answer(x, h, all));
        choicesOutside(name, x, h, call);
      }
    }
  }

  private static void choicesOutside(String name, Sumhoard x, int hoard, OpenOfHoard call) {
    int size = x.size(hoard);
    for (int outside : new int[] {-1, 1 << size, (2 << size) - 1, LEAST, GREATEST}) {
      Check.refuses(name + ", choice " + outside + " of " + size, NO_VALUE, x,
          () -> call.answer(x, hoard, outside));
    }
  }

  /** Some of the choices that are out of range have more than 8 places, and some have not. */
  private static void choicesOneByOne() {
    for (int size : SIZES) {
      for (int hoard = 0; hoard < 2; hoard++) {
        int h = hoard;
        int all = (1 << size) - 1;
        int last8 = all & ~(all >> 8);
        int last9 = all & ~(all >> 9);
        Sumhoard x = sized(h, size);
        Check.answers("34: isAll, none of " + size, true, () -> x.isAll(h, 0));
        Check.answers("34: isAll, 8 of " + size, true, () -> x.isAll(h, all & 255));
        Check.answers("34: isAll, the last 8 of " + size, true, () -> x.isAll(h, last8));
        if (size > 8) {
          Check.refuses("34: isAll, 9 of " + size, NO_ROOM, x, () -> x.isAll(h, 511));
          Check.refuses("34: isAll, the last 9 of " + size, NO_ROOM, x, () -> x.isAll(h, last9));
          Check.refuses("34: isAll, all of " + size, NO_ROOM, x, () -> x.isAll(h, all));
        }
        choicesOutside("34: isAll", x, h, (y, told, c) -> y.isAll(told, c));
      }
    }
  }

  private static void signs() {
    String inside = "&|^-";
    for (int sign = 0; sign < 256; sign++) {
      char how = (char) sign;
      Sumhoard x = wide();
      if (inside.indexOf(how) >= 0) {
        Check.taken("30: compare " + how, () -> x.compare(0, 1, how));
      } else {
        Check.refuses("30: compare, sign " + sign, NO_VALUE, x, () -> x.compare(0, 1, how));
      }
    }
    // Their lower eight bits are those of the four.
    Sumhoard x = wide();
    for (char sign : inside.toCharArray()) {
      char how = (char) (sign | 0x100);
      Check.refuses("30: compare, sign " + (int) how, NO_VALUE, x, () -> x.compare(0, 1, how));
    }
    Check.refuses("30: compare, the last sign", NO_VALUE, x, () -> x.compare(0, 1, (char) 65535));
  }
}
