import java.lang.reflect.Constructor;
import java.lang.reflect.Field;
import java.lang.reflect.Method;
import java.lang.reflect.Modifier;
import java.util.Arrays;
import java.util.Set;
import java.util.TreeSet;

/** The class shows the document's face, and nothing else of itself. */
final class FaceTest {
  private static final String PLACE = "IndexOutOfBoundsException";
  private static final String VALUE = ", IllegalArgumentException";
  private static final String STATE = ", IllegalStateException";
  private static final String NONE = ", NoSuchElementException";

  private static final Set<String> FACE = new TreeSet<>(Arrays.asList(
      "int add(int, int) throws " + PLACE + VALUE + STATE,
      "int insert(int, int, int) throws " + PLACE + VALUE + STATE,
      "int takeOut(int, int) throws " + PLACE,
      "int exchange(int, int, int) throws " + PLACE + VALUE + STATE,
      "int move(int, int, int) throws " + PLACE,
      "int sort(int) throws " + PLACE,
      "int clear(int) throws " + PLACE,
      "int join(int, int, int) throws " + PLACE + STATE,
      "int size(int) throws " + PLACE,
      "int number(int, int) throws " + PLACE,
      "int total(int) throws " + PLACE,
      "boolean isSum(int, int, boolean) throws " + PLACE + VALUE,
      "int sums(int, boolean) throws " + PLACE,
      "int next(int, int, boolean) throws " + PLACE + VALUE + NONE,
      "int previous(int, int, boolean) throws " + PLACE + VALUE,
      "int gap(int, int, boolean) throws " + PLACE + VALUE + NONE,
      "int lastGap(int, boolean) throws " + PLACE + NONE,
      "long ways(int, int, boolean) throws " + PLACE + VALUE,
      "int most(int) throws " + PLACE,
      "int fewest(int, int, boolean) throws " + PLACE + VALUE + NONE,
      "int withMany(int, int) throws " + PLACE + VALUE,
      "int fair(int) throws " + PLACE,
      "float share(int) throws " + PLACE,
      "double meanWays(int) throws " + PLACE,
      "int choice(int, int, int) throws " + PLACE + VALUE + NONE,
      "int rank(int, int) throws " + PLACE + VALUE,
      "int sumOf(int, int) throws " + PLACE + VALUE,
      "int partSums(int, int) throws " + PLACE + VALUE,
      "int compare(int, int, char) throws " + PLACE + VALUE,
      "boolean isLike(int, int) throws " + PLACE,
      "int together(int, int, int) throws " + PLACE + VALUE,
      "boolean isParted(int, int) throws " + PLACE + VALUE,
      "boolean isAll(int, int) throws " + PLACE + VALUE + STATE,
      "boolean isLeft(int, int) throws " + PLACE,
      "boolean isOftenAlike(int) throws " + PLACE,
      "boolean isSound()",
      "long checksum()"));

  private FaceTest() {
  }

  static void run() {
    methodsAreTheFace();
    nothingElseShows();
    staticFieldsAreConstants();
  }

  private static void methodsAreTheFace() {
    Set<String> shown = new TreeSet<>();
    Set<String> publics = new TreeSet<>();
    for (Method method : Sumhoard.class.getDeclaredMethods()) {
      if (!Modifier.isPrivate(method.getModifiers())) {
        shown.add(textOf(method));
        publics.add(method.getName());
        Check.same(method + " is public, and no more", Modifier.PUBLIC, method.getModifiers());
      }
    }
    Check.same("the face", FACE, shown);
    for (Class<?> type : typesOf()) {
      for (Method method : type.getDeclaredMethods()) {
        boolean isFace = type == Sumhoard.class && Modifier.isPublic(method.getModifiers());
        Check.same(method + " has a name of its own", isFace, publics.contains(method.getName()));
      }
    }
  }

  private static void nothingElseShows() {
    Check.same("the class", Modifier.PUBLIC | Modifier.FINAL, Sumhoard.class.getModifiers());
    Constructor<?>[] constructors = Sumhoard.class.getDeclaredConstructors();
    Check.same("constructors", 1, constructors.length);
    Check.same("the constructor", "public Sumhoard()", constructors[0].toString());
    for (Field field : Sumhoard.class.getDeclaredFields()) {
      Check.same(field + " is private", true, Modifier.isPrivate(field.getModifiers()));
    }
    for (Class<?> type : Sumhoard.class.getDeclaredClasses()) {
      Check.same(type + " is static", true, Modifier.isStatic(type.getModifiers()));
      Check.same(type + " is not public", false, Modifier.isPublic(type.getModifiers()));
    }
    Check.same("at most 12 classes", true, typesOf().length <= 12);
  }

  private static void staticFieldsAreConstants() {
    for (Class<?> type : typesOf()) {
      for (Field field : type.getDeclaredFields()) {
        if (Modifier.isStatic(field.getModifiers())) {
          Check.same(field + " is final", true, Modifier.isFinal(field.getModifiers()));
        }
      }
    }
  }

  private static Class<?>[] typesOf() {
    Class<?>[] inside = Sumhoard.class.getDeclaredClasses();
    Class<?>[] all = Arrays.copyOf(inside, inside.length + 1);
    all[inside.length] = Sumhoard.class;
    return all;
  }

  private static String textOf(Method method) {
    StringBuilder text = new StringBuilder(method.getReturnType().getName());
    text.append(' ').append(method.getName()).append('(').append(names(method.getParameterTypes()));
    text.append(')');
    if (method.getExceptionTypes().length > 0) {
      text.append(" throws ").append(names(method.getExceptionTypes()));
    }
    return text.toString();
  }

  private static String names(Class<?>[] types) {
    StringBuilder text = new StringBuilder();
    for (Class<?> type : types) {
      text.append(text.length() == 0 ? "" : ", ").append(type.getSimpleName());
    }
    return text.toString();
  }
}
