import java.lang.management.ManagementFactory;

/** All rows are made with the object: a call that answers makes nothing, so 512 have room. */
final class RoomTest {
  // What the machine itself may take meanwhile; one row of 301 longs a call would be 1.2 million.
  private static final long SLACK = 100_000;
  // An object is promised for 512 calls: 20 to fill it, and 33 steps of at most 9 calls.
  private static final int OBJECTS = 16;
  private static final int STEPS = 32;

  interface Step {
    void play(Sumhoard x);
  }

  private RoomTest() {
  }

  static void run() {
    makesNothing("2, 4: add and takeOut", x -> {
      x.takeOut(0, 7);
      x.add(0, 15);
    });
    makesNothing("3, 5 to 7: insert, exchange, move, sort", x -> {
      x.takeOut(0, 0);
      x.insert(0, 0, 14);
      x.exchange(0, 0, 15);
      x.move(0, 0, 19);
      x.sort(0);
    });
    makesNothing("8, 9: clear and join", x -> {
      x.join(0, 1, 1);
      x.clear(1);
    });
    makesNothing("10 to 18", x -> {
      x.number(0, x.size(0) - 1);
      x.isSum(0, x.total(0), true);
      x.sums(0, true);
      x.next(0, 100, false);
      x.previous(0, 100, true);
      x.gap(0, 100, false);
      x.lastGap(0, true);
    });
    makesNothing("19 to 25", x -> {
      x.ways(0, 300, true);
      x.most(0);
      x.fewest(0, 300, true);
      x.withMany(0, 10);
      x.fair(0);
      x.share(0);
      x.meanWays(0);
    });
    makesNothing("26 to 29", x -> {
      x.choice(0, 150, 100000);
      x.rank(0, 1023 << 10);
      x.sumOf(0, 1023);
      x.partSums(0, 1023);
    });
    makesNothing("30 to 32", x -> {
      x.compare(0, 1, '-');
      x.isLike(0, 0);
      x.together(0, 0, 300);
    });
    makesNothing("33 to 38", x -> {
      x.isParted(0, 1023);
      x.isAll(0, 255);
      x.isLeft(0, 19);
      x.isOftenAlike(0);
      x.isSound();
      x.checksum();
    });
  }

  private static void makesNothing(String what, Step step) {
    com.sun.management.ThreadMXBean threads =
        (com.sun.management.ThreadMXBean) ManagementFactory.getThreadMXBean();
    Sumhoard[] objects = new Sumhoard[OBJECTS];
    for (int i = 0; i < OBJECTS; i++) {
      objects[i] = Check.with(Check.repeated(15, 20));
      step.play(objects[i]);
    }
    long before = threads.getCurrentThreadAllocatedBytes();
    for (Sumhoard x : objects) {
      for (int i = 0; i < STEPS; i++) {
        step.play(x);
      }
    }
    long made = threads.getCurrentThreadAllocatedBytes() - before;
    Check.same(what + " makes nothing (" + made + " bytes)", true, made < SLACK);
  }
}
