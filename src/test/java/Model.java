import java.math.BigInteger;
import java.util.ArrayList;
import java.util.Arrays;
import java.util.Collections;
import java.util.HashSet;
import java.util.List;
import java.util.NoSuchElementException;
import java.util.Set;
import java.util.TreeSet;

/** The document again, by going through all choices: slow, and without any of the class's rows. */
public final class Model {
  private final List<List<Integer>> hoards = List.of(new ArrayList<>(), new ArrayList<>());
  private final int[][] tables = new int[2][];
  private final long[][] counts = new long[2][];

  private List<Integer> told(int hoard) {
    if (hoard < 0 || hoard > 1) {
      throw new IndexOutOfBoundsException();
    }
    return hoards.get(hoard);
  }

  private static void require(boolean is, RuntimeException otherwise) {
    if (!is) {
      throw otherwise;
    }
  }

  private static void requirePlace(List<Integer> told, int place, int end) {
    require(told != null && place >= 0 && place < end, new IndexOutOfBoundsException());
  }

  private static void requireWithin(int least, int value, int most) {
    require(least <= value && value <= most, new IllegalArgumentException());
  }

  private static int all(List<Integer> numbers) {
    return numbers.stream().mapToInt(Integer::intValue).sum();
  }

  private void requireChoice(int hoard, int choice) {
    requireWithin(0, choice, (1 << told(hoard).size()) - 1);
  }

  private void changed(int hoard) {
    tables[hoard] = null;
    counts[hoard] = null;
  }

  /** The sum of each choice. */
  private int[] table(int hoard) {
    List<Integer> numbers = told(hoard);
    if (tables[hoard] == null) {
      int[] table = new int[1 << numbers.size()];
      for (int choice = 1; choice < table.length; choice++) {
        table[choice] = table[choice & choice - 1]
            + numbers.get(Integer.numberOfTrailingZeros(choice));
      }
      tables[hoard] = table;
    }
    return tables[hoard];
  }

  private TreeSet<Integer> once(int hoard) {
    TreeSet<Integer> sums = new TreeSet<>();
    boolean[] seen = new boolean[301];
    for (int sum : table(hoard)) {
      seen[sum] = true;
    }
    for (int sum = 0; sum <= 300; sum++) {
      if (seen[sum]) {
        sums.add(sum);
      }
    }
    return sums;
  }

  /** How many numbers each sum made often takes at least, by rounds of one more number each. */
  private int[] rounds(int hoard) {
    int[] rounds = new int[301];
    Arrays.fill(rounds, -1);
    Set<Integer> front = Set.of(0);
    for (int round = 0; !front.isEmpty(); round++) {
      Set<Integer> behind = new HashSet<>();
      for (int sum : front) {
        rounds[sum] = round;
      }
      for (int sum : front) {
        for (int number : told(hoard)) {
          if (sum + number <= 300 && rounds[sum + number] < 0) {
            behind.add(sum + number);
          }
        }
      }
      front = behind;
    }
    return rounds;
  }

  private TreeSet<Integer> made(int hoard, boolean isOften) {
    if (!isOften) {
      return once(hoard);
    }
    int[] rounds = rounds(hoard);
    TreeSet<Integer> sums = new TreeSet<>();
    for (int sum = 0; sum <= 300; sum++) {
      if (rounds[sum] >= 0) {
        sums.add(sum);
      }
    }
    return sums;
  }

  private TreeSet<Integer> gaps(int hoard, boolean isOften) {
    TreeSet<Integer> gaps = new TreeSet<>();
    for (int sum = 0; sum <= 300; sum++) {
      gaps.add(sum);
    }
    gaps.removeAll(made(hoard, isOften));
    return gaps;
  }

  public int add(int hoard, int number) {
    return insert(hoard, told(hoard).size(), number);
  }

  public int insert(int hoard, int place, int number) {
    List<Integer> numbers = told(hoard);
    requirePlace(numbers, place, numbers.size() + 1);
    requireWithin(1, number, 120);
    require(numbers.size() < 20 && all(numbers) + number <= 300, new IllegalStateException());
    numbers.add(place, number);
    changed(hoard);
    return once(hoard).size();
  }

  public int takeOut(int hoard, int place) {
    List<Integer> numbers = told(hoard);
    requirePlace(numbers, place, numbers.size());
    int before = once(hoard).size();
    numbers.remove(place);
    changed(hoard);
    return before - once(hoard).size();
  }

  public int exchange(int hoard, int place, int number) {
    List<Integer> numbers = told(hoard);
    requirePlace(numbers, place, numbers.size());
    requireWithin(1, number, 120);
    require(all(numbers) - numbers.get(place) + number <= 300, new IllegalStateException());
    changed(hoard);
    return numbers.set(place, number);
  }

  public int move(int hoard, int place, int to) {
    List<Integer> numbers = told(hoard);
    requirePlace(numbers, place, numbers.size());
    requirePlace(numbers, to, numbers.size());
    int number = numbers.remove(place);
    numbers.add(to, number);
    changed(hoard);
    return number;
  }

  public int sort(int hoard) {
    List<Integer> numbers = told(hoard);
    List<Integer> before = new ArrayList<>(numbers);
    Collections.sort(numbers);
    changed(hoard);
    int unlike = 0;
    for (int place = 0; place < before.size(); place++) {
      unlike += before.get(place).equals(numbers.get(place)) ? 0 : 1;
    }
    return unlike;
  }

  public int clear(int hoard) {
    int many = told(hoard).size();
    told(hoard).clear();
    changed(hoard);
    return many;
  }

  public int join(int hoard, int other, int into) {
    List<Integer> both = new ArrayList<>(told(hoard));
    both.addAll(told(other));
    List<Integer> target = told(into);
    require(both.size() <= 20 && all(both) <= 300, new IllegalStateException());
    target.clear();
    target.addAll(both);
    changed(into);
    return once(into).size();
  }

  public int size(int hoard) {
    return told(hoard).size();
  }

  public int number(int hoard, int place) {
    requirePlace(told(hoard), place, told(hoard).size());
    return told(hoard).get(place);
  }

  public int total(int hoard) {
    return all(told(hoard));
  }

  private void requireSum(int hoard, int sum) {
    told(hoard);
    requireWithin(0, sum, 300);
  }

  public boolean isSum(int hoard, int sum, boolean isOften) {
    requireSum(hoard, sum);
    return made(hoard, isOften).contains(sum);
  }

  public int sums(int hoard, boolean isOften) {
    told(hoard);
    return made(hoard, isOften).size();
  }

  private static int found(Integer sum) {
    require(sum != null, new NoSuchElementException());
    return sum;
  }

  public int next(int hoard, int sum, boolean isOften) {
    requireSum(hoard, sum);
    return found(made(hoard, isOften).ceiling(sum));
  }

  public int previous(int hoard, int sum, boolean isOften) {
    requireSum(hoard, sum);
    return made(hoard, isOften).floor(sum);
  }

  public int gap(int hoard, int sum, boolean isOften) {
    requireSum(hoard, sum);
    return found(gaps(hoard, isOften).ceiling(sum));
  }

  public int lastGap(int hoard, boolean isOften) {
    told(hoard);
    return found(gaps(hoard, isOften).floor(300));
  }

  public long ways(int hoard, int sum, boolean isOften) {
    requireSum(hoard, sum);
    if (!isOften) {
      return Arrays.stream(table(hoard)).filter(one -> one == sum).count();
    }
    BigInteger[][] known = new BigInteger[21][301];
    return waysOften(told(hoard), 0, sum, known).longValue();
  }

  /** For the numbers from a place on: each count of the first of them in turn, then the others. */
  private static BigInteger waysOften(List<Integer> numbers, int place, int sum, BigInteger[][] known) {
    if (place == numbers.size()) {
      return sum == 0 ? BigInteger.ONE : BigInteger.ZERO;
    }
    if (known[place][sum] == null) {
      BigInteger ways = BigInteger.ZERO;
      for (int left = sum; left >= 0; left -= numbers.get(place)) {
        ways = ways.add(waysOften(numbers, place + 1, left, known));
      }
      known[place][sum] = ways;
    }
    return known[place][sum];
  }

  private long[] allWays(int hoard) {
    told(hoard);
    if (counts[hoard] == null) {
      long[] ways = new long[301];
      for (int sum : table(hoard)) {
        ways[sum]++;
      }
      counts[hoard] = ways;
    }
    return counts[hoard];
  }

  public int most(int hoard) {
    long[] ways = allWays(hoard);
    long most = Arrays.stream(ways).max().getAsLong();
    int sum = 0;
    while (ways[sum] != most) {
      sum++;
    }
    return sum;
  }

  public int fewest(int hoard, int sum, boolean isOften) {
    requireSum(hoard, sum);
    int least = isOften ? rounds(hoard)[sum] : -1;
    int[] table = table(hoard);
    for (int choice = 0; !isOften && choice < table.length; choice++) {
      int places = Integer.bitCount(choice);
      if (table[choice] == sum && (least < 0 || places < least)) {
        least = places;
      }
    }
    require(least >= 0, new NoSuchElementException());
    return least;
  }

  public int withMany(int hoard, int many) {
    told(hoard);
    requireWithin(0, many, 20);
    int[] table = table(hoard);
    Set<Integer> sums = new HashSet<>();
    for (int choice = 0; choice < table.length; choice++) {
      if (Integer.bitCount(choice) == many) {
        sums.add(table[choice]);
      }
    }
    return sums.size();
  }

  public int fair(int hoard) {
    int all = all(told(hoard));
    int least = 300;
    for (int sum : table(hoard)) {
      least = Math.min(least, Math.abs(sum - (all - sum)));
    }
    return least;
  }

  public float share(int hoard) {
    return (float) once(hoard).size() / (float) (all(told(hoard)) + 1);
  }

  public double meanWays(int hoard) {
    return (double) table(hoard).length / (double) once(hoard).size();
  }

  public int choice(int hoard, int sum, int rank) {
    requireSum(hoard, sum);
    int[] table = table(hoard);
    int before = 0;
    for (int choice = 0; choice < table.length && rank >= 0; choice++) {
      if (table[choice] == sum && before++ == rank) {
        return choice;
      }
    }
    throw new NoSuchElementException();
  }

  public int rank(int hoard, int choice) {
    requireChoice(hoard, choice);
    int[] table = table(hoard);
    int before = 0;
    for (int lesser = 0; lesser < choice; lesser++) {
      before += table[lesser] == table[choice] ? 1 : 0;
    }
    return before;
  }

  public int sumOf(int hoard, int choice) {
    requireChoice(hoard, choice);
    return table(hoard)[choice];
  }

  public int partSums(int hoard, int choice) {
    requireChoice(hoard, choice);
    int[] table = table(hoard);
    boolean[] seen = new boolean[301];
    int many = 0;
    for (int part = choice;; part = part - 1 & choice) {
      many += seen[table[part]] ? 0 : 1;
      seen[table[part]] = true;
      if (part == 0) {
        return many;
      }
    }
  }

  public int compare(int hoard, int other, char how) {
    Set<Integer> one = once(hoard);
    Set<Integer> two = once(other);
    require("&|^-".indexOf(how) >= 0, new IllegalArgumentException());
    int many = 0;
    for (int sum = 0; sum <= 300; sum++) {
      boolean a = one.contains(sum);
      boolean b = two.contains(sum);
      many += how == '&' && a && b || how == '|' && (a || b) || how == '^' && a != b
          || how == '-' && a && !b ? 1 : 0;
    }
    return many;
  }

  public boolean isLike(int hoard, int other) {
    return once(hoard).equals(once(other));
  }

  public int together(int hoard, int other, int sum) {
    Set<Integer> one = once(hoard);
    Set<Integer> two = once(other);
    requireWithin(0, sum, 300);
    int pairs = 0;
    for (int a : one) {
      for (int b : two) {
        pairs += a + b == sum ? 1 : 0;
      }
    }
    return pairs;
  }

  public boolean isParted(int hoard, int choice) {
    requireChoice(hoard, choice);
    return true;
  }

  public boolean isAll(int hoard, int choice) {
    requireChoice(hoard, choice);
    require(Integer.bitCount(choice) <= 8, new IllegalStateException());
    return true;
  }

  public boolean isLeft(int hoard, int place) {
    requirePlace(told(hoard), place, told(hoard).size());
    return true;
  }

  public boolean isOftenAlike(int hoard) {
    told(hoard);
    return true;
  }

  public boolean isSound() {
    return true;
  }

  public long checksum() {
    long check = 7;
    for (int hoard = 0; hoard < 2; hoard++) {
      check = 31 * check + told(hoard).size();
      for (int number : told(hoard)) {
        check = 31 * check + number;
      }
      for (long ways : allWays(hoard)) {
        check = 31 * check + ways;
      }
    }
    return check;
  }
}
