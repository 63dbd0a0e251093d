import java.util.NoSuchElementException;

/** Sums that can be made of the numbers of two hoards; the promises stand in their order. */
public final class Sumhoard {
  private static final int MOST_NUMBERS = 20;
  private static final int MOST_NUMBER = 120;
  private static final int MOST_SUM = 300;
  private static final int MOST_PLACES_ONE_BY_ONE = 8;
  private static final int COUNT_BITS = 21;
  private static final int WORD_BITS = 64;
  private static final int SUM_WORDS = 5;
  private static final int COUNT_WORDS = 99;

  // All rows are made here and filled anew by each call, so that no call makes an object.
  private final Hoard first = new Hoard();
  private final Hoard second = new Hoard();
  private final Hoard spare = new Hoard();
  private final ShiftRow shifts = new ShiftRow();
  private final ShiftRow otherShifts = new ShiftRow();
  private final WaysRow waysRow = new WaysRow();
  private final FewestRow fewestRow = new FewestRow();
  private final PlacesRow placesRow = new PlacesRow();
  private final Theorem theorem = new Theorem();

  /** Both hoards have no numbers. */
  public Sumhoard() {
  }

  // Numbers.

  public int add(int hoard, int number)
      throws IndexOutOfBoundsException, IllegalArgumentException, IllegalStateException {
    Hoard told = hoardTold(hoard);
    return putNumber(told, told.many, number);
  }

  public int insert(int hoard, int place, int number)
      throws IndexOutOfBoundsException, IllegalArgumentException, IllegalStateException {
    Hoard told = hoardTold(hoard);
    if (place < 0 || place > told.many) {
      throw new IndexOutOfBoundsException("no such place to insert at");
    }
    return putNumber(told, place, number);
  }

  public int takeOut(int hoard, int place) throws IndexOutOfBoundsException {
    Hoard told = hoardTold(hoard);
    needPlace(told, place);
    int before = countOnce(told);
    told.takeAway(place);
    return before - countOnce(told);
  }

  public int exchange(int hoard, int place, int number)
      throws IndexOutOfBoundsException, IllegalArgumentException, IllegalStateException {
    Hoard told = hoardTold(hoard);
    needPlace(told, place);
    needNumber(number);
    int old = told.numberAt(place);
    needRoom(told.many, told.sumOfAll() - old + number);
    told.putOver(place, number);
    return old;
  }

  public int move(int hoard, int place, int to) throws IndexOutOfBoundsException {
    Hoard told = hoardTold(hoard);
    needPlace(told, place);
    needPlace(told, to);
    int number = told.takeAway(place);
    told.putIn(to, number);
    return number;
  }

  public int sort(int hoard) throws IndexOutOfBoundsException {
    Hoard told = hoardTold(hoard);
    spare.copyFrom(told);
    told.putInOrder();
    int unlike = 0;
    for (int place = 0; place < told.many; place++) {
      if (told.numberAt(place) != spare.numberAt(place)) {
        unlike++;
      }
    }
    return unlike;
  }

  public int clear(int hoard) throws IndexOutOfBoundsException {
    Hoard told = hoardTold(hoard);
    int many = told.many;
    told.empty();
    return many;
  }

  public int join(int hoard, int other, int into)
      throws IndexOutOfBoundsException, IllegalStateException {
    Hoard front = hoardTold(hoard);
    Hoard back = hoardTold(other);
    Hoard target = hoardTold(into);
    needRoom(front.many + back.many, front.sumOfAll() + back.sumOfAll());
    // The target can be one of the two, so both are read before it is written.
    spare.copyFrom(front);
    spare.putBehind(back);
    target.copyFrom(spare);
    return countOnce(target);
  }

  public int size(int hoard) throws IndexOutOfBoundsException {
    return hoardTold(hoard).many;
  }

  public int number(int hoard, int place) throws IndexOutOfBoundsException {
    Hoard told = hoardTold(hoard);
    needPlace(told, place);
    return told.numberAt(place);
  }

  public int total(int hoard) throws IndexOutOfBoundsException {
    return hoardTold(hoard).sumOfAll();
  }

  // Sums.

  public boolean isSum(int hoard, int sum, boolean isOften)
      throws IndexOutOfBoundsException, IllegalArgumentException {
    Hoard told = hoardTold(hoard);
    needSum(sum);
    return madeBy(told, isOften).isSet(sum);
  }

  public int sums(int hoard, boolean isOften) throws IndexOutOfBoundsException {
    return madeBy(hoardTold(hoard), isOften).countSet();
  }

  public int next(int hoard, int sum, boolean isOften)
      throws IndexOutOfBoundsException, IllegalArgumentException, NoSuchElementException {
    Hoard told = hoardTold(hoard);
    needSum(sum);
    return firstThatIs(true, madeBy(told, isOften), sum);
  }

  public int previous(int hoard, int sum, boolean isOften)
      throws IndexOutOfBoundsException, IllegalArgumentException {
    Hoard told = hoardTold(hoard);
    needSum(sum);
    Bits made = madeBy(told, isOften);
    int found = sum;
    while (found > 0 && !made.isSet(found)) {
      found--;
    }
    return found;
  }

  public int gap(int hoard, int sum, boolean isOften)
      throws IndexOutOfBoundsException, IllegalArgumentException, NoSuchElementException {
    Hoard told = hoardTold(hoard);
    needSum(sum);
    return firstThatIs(false, madeBy(told, isOften), sum);
  }

  public int lastGap(int hoard, boolean isOften)
      throws IndexOutOfBoundsException, NoSuchElementException {
    Bits made = madeBy(hoardTold(hoard), isOften);
    for (int sum = MOST_SUM; sum >= 0; sum--) {
      if (!made.isSet(sum)) {
        return sum;
      }
    }
    throw new NoSuchElementException("all sums are made");
  }

  public long ways(int hoard, int sum, boolean isOften)
      throws IndexOutOfBoundsException, IllegalArgumentException {
    Hoard told = hoardTold(hoard);
    needSum(sum);
    waysRow.fill(told, isOften);
    return waysRow.waysOf(sum);
  }

  public int most(int hoard) throws IndexOutOfBoundsException {
    waysRow.fill(hoardTold(hoard), false);
    int found = 0;
    for (int sum = 1; sum <= MOST_SUM; sum++) {
      if (waysRow.waysOf(sum) > waysRow.waysOf(found)) {
        found = sum;
      }
    }
    return found;
  }

  public int fewest(int hoard, int sum, boolean isOften)
      throws IndexOutOfBoundsException, IllegalArgumentException, NoSuchElementException {
    Hoard told = hoardTold(hoard);
    needSum(sum);
    fewestRow.fill(told, isOften);
    if (!fewestRow.isMade(sum)) {
      throw new NoSuchElementException("the sum is not made");
    }
    return fewestRow.leastOf(sum);
  }

  public int withMany(int hoard, int many)
      throws IndexOutOfBoundsException, IllegalArgumentException {
    Hoard told = hoardTold(hoard);
    if (many < 0 || many > MOST_NUMBERS) {
      throw new IllegalArgumentException("so many places are not from 0 to 20");
    }
    placesRow.fill(told, false);
    int unlike = 0;
    for (int sum = 0; sum <= MOST_SUM; sum++) {
      if (placesRow.isMadeWith(many, sum)) {
        unlike++;
      }
    }
    return unlike;
  }

  public int fair(int hoard) throws IndexOutOfBoundsException {
    Hoard told = hoardTold(hoard);
    Bits made = madeBy(told, false);
    int all = told.sumOfAll();
    int least = all;
    for (int sum = 0; sum <= all; sum++) {
      if (made.isSet(sum)) {
        least = Math.min(least, Math.abs(all - 2 * sum));
      }
    }
    return least;
  }

  public float share(int hoard) throws IndexOutOfBoundsException {
    Hoard told = hoardTold(hoard);
    return (float) countOnce(told) / (float) (told.sumOfAll() + 1);
  }

  public double meanWays(int hoard) throws IndexOutOfBoundsException {
    Hoard told = hoardTold(hoard);
    return (double) (1 << told.many) / (double) countOnce(told);
  }

  // Choices.

  public int choice(int hoard, int sum, int rank)
      throws IndexOutOfBoundsException, IllegalArgumentException, NoSuchElementException {
    Hoard told = hoardTold(hoard);
    needSum(sum);
    waysRow.fill(told, false);
    if (rank < 0 || rank >= waysRow.waysOf(sum)) {
      throw new NoSuchElementException("no such choice of the sum");
    }
    int found = 0;
    int sumLeft = sum;
    long rankLeft = rank;
    // The highest place weighs most, and the choices without it come first.
    for (int place = told.many - 1; place >= 0; place--) {
      int number = told.numberAt(place);
      waysRow.leaveOut(number);
      long without = waysRow.waysOf(sumLeft);
      if (rankLeft >= without) {
        rankLeft -= without;
        sumLeft -= number;
        found |= 1 << place;
      }
    }
    return found;
  }

  public int rank(int hoard, int choice)
      throws IndexOutOfBoundsException, IllegalArgumentException {
    Hoard told = hoardTold(hoard);
    needChoice(told, choice);
    waysRow.fill(told, false);
    int sumLeft = told.sumAt(choice);
    long lesser = 0;
    // A lesser choice is alike above some place, and lacks that place.
    for (int place = told.many - 1; place >= 0; place--) {
      int number = told.numberAt(place);
      waysRow.leaveOut(number);
      if ((choice >> place & 1) != 0) {
        lesser += waysRow.waysOf(sumLeft);
        sumLeft -= number;
      }
    }
    return (int) lesser;
  }

  public int sumOf(int hoard, int choice)
      throws IndexOutOfBoundsException, IllegalArgumentException {
    Hoard told = hoardTold(hoard);
    needChoice(told, choice);
    return told.sumAt(choice);
  }

  public int partSums(int hoard, int choice)
      throws IndexOutOfBoundsException, IllegalArgumentException {
    Hoard told = hoardTold(hoard);
    needChoice(told, choice);
    spare.pick(told, choice);
    return countOnce(spare);
  }

  // Two hoards.

  public int compare(int hoard, int other, char how)
      throws IndexOutOfBoundsException, IllegalArgumentException {
    fillBoth(hoardTold(hoard), hoardTold(other));
    Bits made = shifts.bits;
    Bits madeByOther = otherShifts.bits;
    if (how == '&') {
      made.and(madeByOther, 0);
    } else if (how == '|') {
      made.or(madeByOther, 0);
    } else if (how == '^') {
      made.xor(madeByOther);
    } else if (how == '-') {
      made.andNot(madeByOther);
    } else {
      throw new IllegalArgumentException("none of the four signs");
    }
    return made.countSet();
  }

  public boolean isLike(int hoard, int other) throws IndexOutOfBoundsException {
    fillBoth(hoardTold(hoard), hoardTold(other));
    return shifts.bits.hasBitsOf(otherShifts.bits);
  }

  public int together(int hoard, int other, int sum)
      throws IndexOutOfBoundsException, IllegalArgumentException {
    Hoard told = hoardTold(hoard);
    Hoard toldOther = hoardTold(other);
    needSum(sum);
    fillBoth(told, toldOther);
    // (2) lets the other row stand for its own mirror image, and that moved by sum - U has
    // sum - b set for each b of the other row.
    shifts.bits.and(otherShifts.bits, sum - toldOther.sumOfAll());
    return shifts.bits.countSet();
  }

  // The theorem, call by call.

  public boolean isParted(int hoard, int choice)
      throws IndexOutOfBoundsException, IllegalArgumentException {
    Hoard told = hoardTold(hoard);
    needChoice(told, choice);
    return theorem.playParts(told, choice);
  }

  public boolean isAll(int hoard, int choice)
      throws IndexOutOfBoundsException, IllegalArgumentException, IllegalStateException {
    Hoard told = hoardTold(hoard);
    needChoice(told, choice);
    if (Integer.bitCount(choice) > MOST_PLACES_ONE_BY_ONE) {
      throw new IllegalStateException("more than 8 places");
    }
    return theorem.playOneByOne(told, choice);
  }

  public boolean isLeft(int hoard, int place) throws IndexOutOfBoundsException {
    Hoard told = hoardTold(hoard);
    needPlace(told, place);
    return theorem.playLeftOut(told, place);
  }

  public boolean isOftenAlike(int hoard) throws IndexOutOfBoundsException {
    return theorem.playOften(hoardTold(hoard));
  }

  public boolean isSound() {
    return theorem.playOrders(first) && theorem.playOrders(second);
  }

  public long checksum() {
    return checksumOn(second, checksumOn(first, 7L));
  }

  private Hoard hoardTold(int hoard) {
    if (hoard != 0 && hoard != 1) {
      throw new IndexOutOfBoundsException("no such hoard");
    }
    return hoard == 0 ? first : second;
  }

  private static void needPlace(Hoard told, int place) {
    if (!told.hasPlace(place)) {
      throw new IndexOutOfBoundsException("no such place");
    }
  }

  private static void needNumber(int number) {
    if (number < 1 || number > MOST_NUMBER) {
      throw new IllegalArgumentException("the number is not from 1 to 120");
    }
  }

  private static void needSum(int sum) {
    if (sum < 0 || sum > MOST_SUM) {
      throw new IllegalArgumentException("the sum is not from 0 to 300");
    }
  }

  private static void needChoice(Hoard told, int choice) {
    if (choice < 0 || choice >= 1 << told.many) {
      throw new IllegalArgumentException("no such choice");
    }
  }

  private static void needRoom(int many, int all) {
    if (many > MOST_NUMBERS || all > MOST_SUM) {
      throw new IllegalStateException("more than 20 numbers, or more than 300 together");
    }
  }

  private int putNumber(Hoard told, int place, int number) {
    needNumber(number);
    needRoom(told.many + 1, told.sumOfAll() + number);
    told.putIn(place, number);
    return countOnce(told);
  }

  private Bits madeBy(Hoard told, boolean isOften) {
    if (isOften) {
      shifts.fillOften(told);
    } else {
      shifts.fillOnce(told);
    }
    return shifts.bits;
  }

  private int countOnce(Hoard told) {
    shifts.fillOnce(told);
    return shifts.bits.countSet();
  }

  private void fillBoth(Hoard told, Hoard toldOther) {
    shifts.fillOnce(told);
    otherShifts.fillOnce(toldOther);
  }

  private static int firstThatIs(boolean isMade, Bits made, int from) {
    for (int sum = from; sum <= MOST_SUM; sum++) {
      if (made.isSet(sum) == isMade) {
        return sum;
      }
    }
    throw new NoSuchElementException("no such sum up to 300");
  }

  private long checksumOn(Hoard told, long before) {
    waysRow.fill(told, false);
    long check = 31L * before + told.many;
    for (int place = 0; place < told.many; place++) {
      check = 31L * check + told.numberAt(place);
    }
    for (int sum = 0; sum <= MOST_SUM; sum++) {
      check = 31L * check + waysRow.waysOf(sum);
    }
    return check;
  }

  /** Numbers at their places. The face has looked at the limits before it changes one. */
  private static final class Hoard {
    private final int[] numbers = new int[MOST_NUMBERS];
    private int many;

    boolean hasPlace(int place) {
      return place >= 0 && place < many && place < MOST_NUMBERS;
    }

    int numberAt(int place) {
      return hasPlace(place) ? numbers[place] : 0;
    }

    int sumAt(int choice) {
      int sum = 0;
      for (int place = 0; place < many; place++) {
        if ((choice >> place & 1) != 0) {
          sum += numberAt(place);
        }
      }
      return sum;
    }

    int sumOfAll() {
      return sumAt(-1);
    }

    void empty() {
      many = 0;
    }

    void putIn(int place, int number) {
      if (many >= MOST_NUMBERS || place < 0 || place > many) {
        return;
      }
      for (int to = many; to > place; to--) {
        numbers[to] = numbers[to - 1];
      }
      numbers[place] = number;
      many++;
    }

    void putOver(int place, int number) {
      if (hasPlace(place)) {
        numbers[place] = number;
      }
    }

    int takeAway(int place) {
      if (!hasPlace(place)) {
        return 0;
      }
      int number = numbers[place];
      for (int to = place; to + 1 < many; to++) {
        numbers[to] = numberAt(to + 1);
      }
      many--;
      return number;
    }

    void putInOrder() {
      for (int place = 1; place < many; place++) {
        int number = takeAway(place);
        int to = place;
        while (to > 0 && numberAt(to - 1) > number) {
          to--;
        }
        putIn(to, number);
      }
    }

    /** Becomes the numbers of another hoard at the places of a choice. */
    void pick(Hoard from, int choice) {
      empty();
      for (int place = 0; place < from.many; place++) {
        if ((choice >> place & 1) != 0) {
          putIn(many, from.numberAt(place));
        }
      }
    }

    void copyFrom(Hoard from) {
      pick(from, -1);
    }

    void copyTurned(Hoard from) {
      empty();
      for (int place = from.many - 1; place >= 0; place--) {
        putIn(many, from.numberAt(place));
      }
    }

    void putBehind(Hoard from) {
      for (int place = 0; place < from.many; place++) {
        putIn(many, from.numberAt(place));
      }
    }
  }

  /** A number that is never below 0, as BigInteger has one; what comes behind its words is lost. */
  private static final class Bits {
    private final long[] words;
    private final long[] shifted;

    Bits(int length) {
      int told = length > 0 ? length : 0;
      words = new long[told];
      shifted = new long[told];
    }

    void become(int value) {
      for (int index = 0; index < words.length; index++) {
        words[index] = index == 0 ? value : 0L;
      }
    }

    void setBelow(int end) {
      for (int index = 0; index < words.length; index++) {
        int within = end - index * WORD_BITS;
        words[index] = within >= WORD_BITS ? -1L : within > 0 ? (1L << within) - 1L : 0L;
      }
    }

    void or(Bits from, int by) {
      shift(from, by);
      for (int index = 0; index < words.length && index < shifted.length; index++) {
        words[index] |= shifted[index];
      }
    }

    void and(Bits from, int by) {
      shift(from, by);
      for (int index = 0; index < words.length && index < shifted.length; index++) {
        words[index] &= shifted[index];
      }
    }

    void xor(Bits from) {
      for (int index = 0; index < words.length; index++) {
        words[index] ^= from.wordAt(index);
      }
    }

    void andNot(Bits from) {
      for (int index = 0; index < words.length; index++) {
        words[index] &= ~from.wordAt(index);
      }
    }

    void plus(Bits from, int by) {
      shift(from, by);
      long carry = 0L;
      for (int index = 0; index < words.length && index < shifted.length; index++) {
        long one = words[index];
        long other = shifted[index];
        long sum = one + other + carry;
        // A word overflows if both tops are set, or one of them is and the sum's is not.
        carry = (one & other | (one | other) & ~sum) >>> (WORD_BITS - 1);
        words[index] = sum;
      }
    }

    boolean isSet(int place) {
      return (wordAt(place >> 6) >>> (place & 63) & 1L) != 0L;
    }

    /** The bits from a place on, the first one lowest. */
    long fieldAt(int place) {
      int word = place >> 6;
      int bit = place & 63;
      long low = wordAt(word) >>> bit;
      return bit == 0 ? low : low | wordAt(word + 1) << (WORD_BITS - bit);
    }

    int countSet() {
      int set = 0;
      for (int index = 0; index < words.length; index++) {
        set += Long.bitCount(words[index]);
      }
      return set;
    }

    int endOfSet() {
      int end = words.length * WORD_BITS;
      while (end > 0 && !isSet(end - 1)) {
        end--;
      }
      return end;
    }

    boolean hasBitsOf(Bits other) {
      for (int index = 0; index < words.length; index++) {
        if (words[index] != other.wordAt(index)) {
          return false;
        }
      }
      return words.length == other.words.length;
    }

    /** Shifts aside, as a number may be joined with itself; to the right if it is by below 0. */
    private void shift(Bits from, int by) {
      int byWords = by >> 6;
      int byBits = by & 63;
      for (int index = 0; index < shifted.length; index++) {
        long upper = from.wordAt(index - byWords) << byBits;
        long lower = from.wordAt(index - byWords - 1) >>> (WORD_BITS - 1 - byBits) >>> 1;
        shifted[index] = upper | lower;
      }
    }

    private long wordAt(int index) {
      return index >= 0 && index < words.length ? words[index] : 0L;
    }
  }

  /** The shift rows of (1) and (3). */
  private static final class ShiftRow {
    private final Bits bits = new Bits(SUM_WORDS);
    private final Bits everySum = new Bits(SUM_WORDS);

    ShiftRow() {
      everySum.setBelow(MOST_SUM + 1);
    }

    void fillOnce(Hoard hoard) {
      bits.become(1);
      for (int place = 0; place < hoard.many; place++) {
        bits.or(bits, hoard.numberAt(place));
      }
    }

    void fillOften(Hoard hoard) {
      bits.become(1);
      for (int place = 0; place < hoard.many; place++) {
        for (int by = hoard.numberAt(place); by > 0 && by <= MOST_SUM; by += by) {
          bits.or(bits, by);
          bits.and(everySum, 0);
        }
      }
    }
  }

  /** The count row of (4); its counts are kept unpacked, too, as they are read many times. */
  private static final class CountRow {
    private final Bits bits = new Bits(COUNT_WORDS);
    private final long[] counts = new long[MOST_SUM + 1];

    void fill(Hoard hoard) {
      bits.become(1);
      for (int place = 0; place < hoard.many; place++) {
        bits.plus(bits, COUNT_BITS * hoard.numberAt(place));
      }
      for (int sum = 0; sum <= MOST_SUM; sum++) {
        counts[sum] = bits.fieldAt(COUNT_BITS * sum) & (1L << COUNT_BITS) - 1L;
      }
    }

    long countOf(int sum) {
      return sum >= 0 && sum <= MOST_SUM ? counts[sum] : 0L;
    }
  }

  /**
   * A row with a cell for each sum from 0 to 300. Downwards, a sum is carried on from before its
   * number was there, so that it is taken once at most; upwards, from what has it already.
   */
  private abstract static class SumRow {
    abstract void begin();

    abstract void carry(int from, int to);

    final void fill(Hoard hoard, boolean isOften) {
      begin();
      for (int place = 0; place < hoard.many; place++) {
        take(hoard.numberAt(place), isOften);
      }
    }

    private void take(int number, boolean isOften) {
      if (number < 1 || number > MOST_SUM) {
        return;
      }
      if (isOften) {
        for (int to = number; to <= MOST_SUM; to++) {
          carry(to - number, to);
        }
      } else {
        for (int to = MOST_SUM; to >= number; to--) {
          carry(to - number, to);
        }
      }
    }

    static boolean isCell(int sum) {
      return sum >= 0 && sum <= MOST_SUM;
    }
  }

  /** The set rows of (1) and (3), as BitSet has them. */
  private static final class SetRow extends SumRow {
    private final boolean[] set = new boolean[MOST_SUM + 1];

    void begin() {
      for (int place = 0; place <= MOST_SUM; place++) {
        set[place] = place == 0;
      }
    }

    void carry(int from, int to) {
      if (isCell(from) && isCell(to) && set[from]) {
        set[to] = true;
      }
    }

    boolean isSet(int place) {
      return isCell(place) && set[place];
    }

    int countSet() {
      int many = 0;
      for (int place = 0; place <= MOST_SUM; place++) {
        if (set[place]) {
          many++;
        }
      }
      return many;
    }

    int endOfSet() {
      int end = MOST_SUM + 1;
      while (end > 0 && !isSet(end - 1)) {
        end--;
      }
      return end;
    }
  }

  /** How many ways each sum has; longs that go round. */
  private static final class WaysRow extends SumRow {
    private final long[] ways = new long[MOST_SUM + 1];

    void begin() {
      for (int sum = 0; sum <= MOST_SUM; sum++) {
        ways[sum] = sum == 0 ? 1L : 0L;
      }
    }

    void carry(int from, int to) {
      if (isCell(from) && isCell(to)) {
        ways[to] += ways[from];
      }
    }

    /** Takes a number back, by (5), that was taken once at most. */
    void leaveOut(int number) {
      if (number < 1) {
        return;
      }
      for (int sum = number; sum <= MOST_SUM; sum++) {
        ways[sum] -= ways[sum - number];
      }
    }

    long waysOf(int sum) {
      return isCell(sum) ? ways[sum] : 0L;
    }
  }

  /** How many numbers each sum takes at least. */
  private static final class FewestRow extends SumRow {
    // No way takes more than 300 numbers, as none is below 1.
    private static final int NOT_MADE = MOST_SUM + 1;
    private final int[] least = new int[MOST_SUM + 1];

    void begin() {
      for (int sum = 0; sum <= MOST_SUM; sum++) {
        least[sum] = sum == 0 ? 0 : NOT_MADE;
      }
    }

    void carry(int from, int to) {
      if (isCell(from) && isCell(to)) {
        least[to] = Math.min(least[to], least[from] + 1);
      }
    }

    boolean isMade(int sum) {
      return leastOf(sum) < NOT_MADE;
    }

    int leastOf(int sum) {
      return isCell(sum) ? least[sum] : NOT_MADE;
    }
  }

  /** For each sum, bit m tells whether a choice of m places has it. */
  private static final class PlacesRow extends SumRow {
    private final int[] manies = new int[MOST_SUM + 1];

    void begin() {
      for (int sum = 0; sum <= MOST_SUM; sum++) {
        manies[sum] = sum == 0 ? 1 : 0;
      }
    }

    void carry(int from, int to) {
      if (isCell(from) && isCell(to)) {
        manies[to] |= manies[from] << 1;
      }
    }

    boolean isMadeWith(int many, int sum) {
      return isCell(sum) && (manies[sum] >> many & 1) != 0;
    }
  }

  /** Plays the theorem: makes its rows in both ways that it tells, and compares them. */
  private static final class Theorem {
    private final Hoard part = new Hoard();
    private final Hoard rest = new Hoard();
    private final ShiftRow shifts = new ShiftRow();
    private final ShiftRow partShifts = new ShiftRow();
    private final SetRow set = new SetRow();
    private final WaysRow ways = new WaysRow();
    private final CountRow counts = new CountRow();
    private final CountRow partCounts = new CountRow();
    private final CountRow restCounts = new CountRow();
    private final Bits joined = new Bits(SUM_WORDS);
    private final long[] found = new long[MOST_SUM + 1];

    /** (1), (2) and (4), in the order of the places and in the other one. */
    boolean playOrders(Hoard hoard) {
      // All choices of 20 numbers are too many to go through: they are counted without the rows.
      ways.fill(hoard, false);
      for (int sum = 0; sum <= MOST_SUM; sum++) {
        found[sum] = ways.waysOf(sum);
      }
      part.copyTurned(hoard);
      return areRowsAsFound(part) && areRowsAsFound(hoard) && isMirrored(hoard.sumOfAll());
    }

    /** (1) and (4) for the numbers at the places of a choice, their choices told one by one. */
    boolean playOneByOne(Hoard hoard, int choice) {
      part.pick(hoard, choice);
      for (int sum = 0; sum <= MOST_SUM; sum++) {
        found[sum] = 0L;
      }
      int end = 1 << part.many;
      for (int one = 0; one < end; one++) {
        int sum = part.sumAt(one);
        if (sum >= 0 && sum <= MOST_SUM) {
          found[sum]++;
        }
      }
      return areRowsAsFound(part);
    }

    /** (3), its sums found by their last number. */
    boolean playOften(Hoard hoard) {
      shifts.fillOften(hoard);
      set.fill(hoard, true);
      for (int sum = 0; sum <= MOST_SUM; sum++) {
        found[sum] = sum == 0 || isFoundBelow(sum, hoard) ? 1L : 0L;
        boolean isMade = found[sum] != 0L;
        if (shifts.bits.isSet(sum) != isMade || set.isSet(sum) != isMade) {
          return false;
        }
      }
      return areSetsTold();
    }

    /** (5) for the number at a place. */
    boolean playLeftOut(Hoard hoard, int place) {
      int number = hoard.numberAt(place);
      part.pick(hoard, ~(1 << place));
      counts.fill(hoard);
      partCounts.fill(part);
      partShifts.fillOnce(part);
      for (int sum = 0; sum <= MOST_SUM; sum++) {
        long before = number > 0 && sum >= number ? found[sum - number] : 0L;
        long left = counts.countOf(sum) - before;
        found[sum] = left;
        if (left < 0L || left != partCounts.countOf(sum)
            || partShifts.bits.isSet(sum) != left > 0L) {
          return false;
        }
      }
      return true;
    }

    /** (6) for the numbers at the places of a choice, and all others. */
    boolean playParts(Hoard hoard, int choice) {
      part.pick(hoard, choice);
      rest.pick(hoard, ~choice);
      return arePartsJoined(hoard) && arePartsCounted(hoard);
    }

    private boolean arePartsJoined(Hoard hoard) {
      shifts.fillOnce(hoard);
      partShifts.fillOnce(part);
      set.fill(rest, false);
      joined.become(0);
      for (int place = 0; place <= MOST_SUM; place++) {
        if (set.isSet(place)) {
          joined.or(partShifts.bits, place);
        }
      }
      return joined.hasBitsOf(shifts.bits);
    }

    private boolean arePartsCounted(Hoard hoard) {
      counts.fill(hoard);
      partCounts.fill(part);
      restCounts.fill(rest);
      for (int sum = 0; sum <= MOST_SUM; sum++) {
        if (pairsOf(sum) != counts.countOf(sum)) {
          return false;
        }
      }
      return true;
    }

    /** Goes over what one part or the other can't make without a look: its counts are 0. */
    private long pairsOf(int sum) {
      long pairs = 0L;
      int end = Math.min(sum, part.sumOfAll());
      for (int one = Math.max(0, sum - rest.sumOfAll()); one <= end; one++) {
        pairs += partCounts.countOf(one) * restCounts.countOf(sum - one);
      }
      return pairs;
    }

    private boolean areRowsAsFound(Hoard hoard) {
      shifts.fillOnce(hoard);
      set.fill(hoard, false);
      counts.fill(hoard);
      long together = 0L;
      for (int sum = 0; sum <= MOST_SUM; sum++) {
        boolean isMade = found[sum] != 0L;
        if (shifts.bits.isSet(sum) != isMade || set.isSet(sum) != isMade
            || counts.countOf(sum) != found[sum]) {
          return false;
        }
        together += counts.countOf(sum);
      }
      return areSetsTold() && together == 1L << hoard.many;
    }

    private boolean areSetsTold() {
      return shifts.bits.countSet() == set.countSet()
          && shifts.bits.endOfSet() == set.endOfSet();
    }

    private boolean isMirrored(int all) {
      for (int sum = 0; sum <= all; sum++) {
        if (shifts.bits.isSet(sum) != shifts.bits.isSet(all - sum)) {
          return false;
        }
      }
      return true;
    }

    private boolean isFoundBelow(int sum, Hoard hoard) {
      for (int place = 0; place < hoard.many; place++) {
        int number = hoard.numberAt(place);
        if (number > 0 && sum >= number && found[sum - number] != 0L) {
          return true;
        }
      }
      return false;
    }
  }
}
