import java.io.ByteArrayOutputStream;
import java.io.IOException;
import java.io.PrintStream;
import java.lang.reflect.Method;
import java.lang.reflect.Modifier;
import java.net.URL;
import java.net.URLClassLoader;
import java.nio.file.Files;
import java.nio.file.Path;
import java.util.Comparator;
import java.util.List;
import java.util.stream.Stream;
import javax.tools.JavaCompiler;
import javax.tools.ToolProvider;

/** README.md holds: its program does what it says, and it tells of every call and every test. */
public final class ReadmeTest {
  private static final Checks CHECKS = new Checks("ReadmeTest");
  private static final Path SOURCE = Path.of("src/main/java/GreyReel.java");
  private static final Path TESTS = Path.of("src/test/java");
  private static final String CODE_BEGINS = "```java\n";
  private static final String CODE_ENDS = "```\n";
  private static final String PRINTS = "It prints:\n\n";

  private ReadmeTest() {
  }

  private static String between(String text, String begin, String end) {
    int start = text.indexOf(begin);
    int stop = text.indexOf(end, start + begin.length());
    if (start < 0 || stop < 0) {
      throw new IllegalStateException("README.md has no " + begin.trim());
    }
    return text.substring(start + begin.length(), stop);
  }

  private static void program(String readme) throws Exception {
    Path made = Files.createTempDirectory("readme");
    try {
      Path program = made.resolve("Show.java");
      Files.writeString(program, between(readme, CODE_BEGINS, CODE_ENDS));
      JavaCompiler compiler = ToolProvider.getSystemJavaCompiler();
      int failed = compiler.run(null, null, null,
          "-d", made.toString(), SOURCE.toString(), program.toString());
      CHECKS.due("the program compiles", failed, 0);
      if (failed == 0) {
        String due = between(readme, PRINTS, "\n\n").trim();
        CHECKS.due("the program", printedBy(made), due);
      }
    } finally {
      remove(made);
    }
  }

  private static String printedBy(Path classes) throws Exception {
    ByteArrayOutputStream printed = new ByteArrayOutputStream();
    PrintStream usual = System.out;
    URL[] place = {classes.toUri().toURL()};
    try (URLClassLoader loader =
        new URLClassLoader(place, ClassLoader.getPlatformClassLoader())) {
      Method main = loader.loadClass("Show").getMethod("main", String[].class);
      System.setOut(new PrintStream(printed, true));
      main.invoke(null, (Object) new String[0]);
    } finally {
      System.setOut(usual);
    }
    return printed.toString().trim();
  }

  private static void remove(Path directory) throws IOException {
    List<Path> all;
    try (Stream<Path> found = Files.walk(directory)) {
      all = found.sorted(Comparator.reverseOrder()).toList();
    }
    for (Path one : all) {
      Files.delete(one);
    }
  }

  private static void calls(String readme) {
    String told = between(readme, "The calls, by what they are for:", "## ");
    for (Method method : GreyReel.class.getDeclaredMethods()) {
      if (Modifier.isPublic(method.getModifiers())) {
        CHECKS.holds("told of: " + method.getName(), told.contains("`" + method.getName() + "`"));
      }
    }
  }

  private static void tests(String readme) throws IOException {
    CHECKS.holds("told how to run the tests", readme.contains("\n    .ci/run\n"));
    CHECKS.holds("there is a .ci/run to be run", Files.isExecutable(Path.of(".ci/run")));
    List<Path> all;
    try (Stream<Path> found = Files.list(TESTS)) {
      all = found.filter(file -> file.toString().endsWith("Test.java")).toList();
    }
    for (Path file : all) {
      String name = file.getFileName().toString().replace(".java", "");
      CHECKS.holds("told of: " + name, readme.contains("`" + name + "`"));
    }
  }

  public static void main(String[] args) throws Exception {
    String readme = Files.readString(Path.of("README.md"));
    program(readme);
    calls(readme);
    tests(readme);
    CHECKS.end();
  }
}
