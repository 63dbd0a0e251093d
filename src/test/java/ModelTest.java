import java.lang.reflect.InvocationTargetException;
import java.lang.reflect.Method;
import java.util.Map;
import java.util.TreeMap;

/** Long runs of calls, right ones and wrong ones, held against Model: the same in every run. */
final class ModelTest {
  /** What each argument is: hoard, place, number, sum, often or once, many, rank, choice, sign. */
  private static final String[] CALLS = {
    "add hn", "insert hpn", "takeOut hp", "exchange hpn", "move hpp", "sort h", "clear h",
    "join hhh", "size h", "number hp", "total h", "isSum hso", "sums ho", "next hso",
    "previous hso", "gap hso", "lastGap ho", "ways hso", "most h", "fewest hso", "withMany hm",
    "fair h", "share h", "meanWays h", "choice hsr", "rank hc", "sumOf hc", "partSums hc",
    "compare hhw", "isLike hh", "together hhs", "isParted hc", "isAll hc", "isLeft hp",
    "isOftenAlike h", "isSound", "checksum"
  };
  // Each call is followed by checksum, and an object is promised for 512 calls.
  private static final int RUN = 256;
  private static final int[] FAR = {-1, Integer.MIN_VALUE, Integer.MAX_VALUE, 1 << 20, 301, 121, 21, 20, 2};

  private final Map<String, Method> ofClass = methodsOf(Sumhoard.class);
  private final Map<String, Method> ofModel = methodsOf(Model.class);
  private final Sumhoard x = new Sumhoard();
  private final Model model = new Model();
  private final int greatest;
  private long seed;

  private ModelTest(long seed, int greatest) {
    this.seed = seed;
    this.greatest = greatest;
  }

  static void run() {
    int[] greatests = {1, 2, 4, 9, 15, 24, 40, 60, 120};
    for (int i = 0; i < 180; i++) {
      new ModelTest(i + 1L, greatests[i % greatests.length]).play(i);
    }
  }

  private static Map<String, Method> methodsOf(Class<?> type) {
    Map<String, Method> methods = new TreeMap<>();
    for (Method method : type.getMethods()) {
      if (method.getDeclaringClass() == type) {
        methods.put(method.getName(), method);
      }
    }
    return methods;
  }

  private int below(int end) {
    seed = seed * 6364136223846793005L + 1442695040888963407L;
    return (int) Long.remainderUnsigned(seed >>> 20, end);
  }

  private void play(int run) {
    for (int call = 0; call < RUN; call++) {
      // Without more adds than other calls, takeOut and clear keep the hoards small.
      String told = CALLS[below(below(4) == 0 ? 2 : CALLS.length)];
      if (told.startsWith("clear") && below(3) > 0) {
        told = "takeOut hp";
      }
      String name = told.split(" ")[0];
      Object[] given = argumentsOf(told.substring(name.length()).trim());
      Object due = answerOf(ofModel.get(name), model, given);
      Object got = answerOf(ofClass.get(name), x, given);
      String what = "run " + run + " call " + call + ": " + name + java.util.Arrays.toString(given);
      Check.same(what, due, got);
      Check.same(what + ", the checksum behind it", model.checksum(), x.checksum());
    }
  }

  private Object[] argumentsOf(String kinds) {
    Object[] given = new Object[kinds.length()];
    int hoard = 0;
    for (int i = 0; i < given.length; i++) {
      char kind = kinds.charAt(i);
      if (kind == 'o') {
        given[i] = below(2) == 0;
      } else if (kind == 'w') {
        given[i] = "&|^-&|^-+".charAt(below(9));
      } else {
        given[i] = below(25) == 0 ? FAR[below(FAR.length)] : near(kind, hoard);
      }
      if (i == 0) {
        hoard = Integer.valueOf(1).equals(given[0]) ? 1 : 0;
      }
    }
    return given;
  }

  private int near(char kind, int hoard) {
    switch (kind) {
      case 'h':
        return below(2);
      case 'p':
        return below(model.size(hoard) + 1);
      case 'n':
        return 1 + below(greatest);
      case 's':
        return below(3) == 0 ? below(301) : below(model.total(hoard) + 2);
      case 'm':
        return below(model.size(hoard) + 2);
      case 'r':
        return below(below(2) == 0 ? 3 : 40);
      default:
        return below((1 << model.size(hoard)) + (below(9) == 0 ? 2 : 0));
    }
  }

  private static Object answerOf(Method method, Object of, Object[] given) {
    try {
      return method.invoke(of, given);
    } catch (InvocationTargetException e) {
      return "throws " + e.getCause().getClass().getName();
    } catch (IllegalAccessException e) {
      return "not to be called: " + method;
    }
  }
}
