import java.io.File;
import java.io.IOException;
import java.lang.reflect.InvocationTargetException;
import java.lang.reflect.Method;
import java.lang.reflect.Modifier;
import java.nio.file.Files;
import java.nio.file.Path;
import java.util.Map;
import java.util.Set;
import java.util.TreeMap;
import java.util.TreeSet;
import java.util.regex.Matcher;
import java.util.regex.Pattern;

/** README.md holds: its examples answer as it says, and the tests that it names are those that run. */
final class ReadmeTest {
  private static final Path README = Path.of("README.md");
  private static final Path TESTS = Path.of("src", "test", "java");
  private static final String NEW = "Sumhoard x = new Sumhoard();";
  /** A call, and behind the dashes what it answers, or the exception that it throws. */
  private static final Pattern LINE =
      Pattern.compile("x\\.(\\w+)\\(([^)]*)\\); +// (throws \\w+|[\\w.-]*\\w)(?:[: ].*)?");
  private static final Pattern TEST_NAME = Pattern.compile("`(\\w+Test)`");
  private static final Pattern TEST_RUN = Pattern.compile("(\\w+Test)\\.run\\(\\);");

  private final Map<String, Method> face = new TreeMap<>();
  private final Set<String> shown = new TreeSet<>();
  private Sumhoard x;

  private ReadmeTest() {
    for (Method method : Sumhoard.class.getDeclaredMethods()) {
      if (Modifier.isPublic(method.getModifiers())) {
        face.put(method.getName(), method);
      }
    }
  }

  static void run() {
    try {
      new ReadmeTest().examplesAnswer(Files.readString(README));
      testsAreNamed(Files.readString(README));
      howToRunTests(Files.readString(README));
    } catch (IOException e) {
      Check.same("README.md and the tests, below the working directory", "read", e.toString());
    }
  }

  private void examplesAnswer(String readme) {
    boolean isExample = false;
    for (String line : readme.split("\n")) {
      if (line.startsWith("```")) {
        isExample = line.equals("```java");
      } else if (isExample && line.equals(NEW)) {
        x = new Sumhoard();
      } else if (isExample) {
        exampleAnswers(line);
      }
    }
    Check.same("README: each call is shown", face.keySet(), shown);
  }

  private void exampleAnswers(String line) {
    Matcher told = LINE.matcher(line);
    boolean isCall = told.matches() && face.containsKey(told.group(1)) && x != null;
    Check.same("README: a call with its answer: " + line, true, isCall);
    if (isCall) {
      shown.add(told.group(1));
      Check.same("README: " + line, told.group(3), answerOf(told.group(1), told.group(2)));
    }
  }

  private String answerOf(String name, String arguments) {
    Method method = face.get(name);
    Class<?>[] types = method.getParameterTypes();
    String[] texts = arguments.isEmpty() ? new String[0] : arguments.split(", ");
    if (texts.length != types.length) {
      return "not so many arguments";
    }
    Object[] given = new Object[types.length];
    for (int i = 0; i < types.length; i++) {
      given[i] = valueOf(types[i], texts[i]);
    }
    try {
      return String.valueOf(method.invoke(x, given));
    } catch (InvocationTargetException e) {
      return "throws " + e.getCause().getClass().getSimpleName();
    } catch (IllegalAccessException | IllegalArgumentException e) {
      return "not to be called so: " + e;
    }
  }

  /** No such value is left null, which no call takes. */
  private static Object valueOf(Class<?> type, String text) {
    if (type == int.class && text.matches("-?\\d{1,9}")) {
      return Integer.valueOf(text);
    }
    if (type == boolean.class && text.matches("true|false")) {
      return Boolean.valueOf(text);
    }
    return type == char.class && text.matches("'.'") ? text.charAt(1) : null;
  }

  private static Set<String> allIn(String text, Pattern pattern) {
    Set<String> all = new TreeSet<>();
    for (Matcher found = pattern.matcher(text); found.find();) {
      all.add(found.group(1));
    }
    return all;
  }

  private static void testsAreNamed(String readme) throws IOException {
    Set<String> there = new TreeSet<>();
    String[] files = TESTS.toFile().list();
    for (String file : files == null ? new String[0] : files) {
      if (file.endsWith("Test.java")) {
        there.add(file.substring(0, file.length() - ".java".length()));
      }
    }
    Check.same("README: the tests", there, allIn(readme, TEST_NAME));
    String runner = Files.readString(TESTS.resolve("AllTests.java"));
    Check.same("README: the tests that AllTests runs", there, allIn(runner, TEST_RUN));
  }

  private static void howToRunTests(String readme) {
    Check.same("README: how to run the tests", true, readme.contains("```sh\n.ci/run\n```"));
    Check.same("README: .ci/run is there to be run", true, new File(".ci/run").canExecute());
  }
}
