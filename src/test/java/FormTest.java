import java.io.IOException;
import java.lang.reflect.Constructor;
import java.lang.reflect.Field;
import java.lang.reflect.Method;
import java.lang.reflect.Modifier;
import java.nio.file.Files;
import java.nio.file.Path;
import java.util.ArrayList;
import java.util.LinkedHashMap;
import java.util.List;
import java.util.Map;
import java.util.TreeMap;
import java.util.TreeSet;
import java.util.regex.Matcher;
import java.util.regex.Pattern;

/** The face is the document's, and the file keeps to LANGUAGE.md as far as that can be counted. */
public final class FormTest {
  private static final Checks CHECKS = new Checks("FormTest");
  private static final Path SOURCE = Path.of("src/main/java/GreyReel.java");
  private static final Path DOCUMENT = Path.of("../shared/DOC.md");
  private static final Pattern METHOD =
      Pattern.compile("(?m)^ {2,4}(?:(?:public|private|static|final) )*[\\w\\[\\]]+ ?(\\w*)\\(([^)]*)\\)"
          + "(?:\\s+throws [\\w, ]+)? \\{\\n");
  private static final Pattern CALLED = Pattern.compile("((?:[A-Z]\\w*\\.)?\\b[a-z]\\w*)\\(");

  private FormTest() {
  }

  private static void face() throws IOException {
    TreeSet<String> want = new TreeSet<>();
    String text = Files.readString(DOCUMENT);
    String face = text.substring(text.indexOf("```java"), text.indexOf("## Terms"));
    for (String line : face.split("\n")) {
      if (line.startsWith("    public ")) {
        want.add(line.trim().replaceAll("(int|boolean) \\w+([,)])", "$1$2").replace(";", ""));
      }
    }
    TreeSet<String> got = new TreeSet<>();
    for (Constructor<?> made : GreyReel.class.getDeclaredConstructors()) {
      got.add(plain(made.toGenericString()));
    }
    for (Method method : GreyReel.class.getDeclaredMethods()) {
      if (!Modifier.isPrivate(method.getModifiers())) {
        got.add(plain(method.toGenericString()).replace("GreyReel.", ""));
      }
    }
    CHECKS.due("the face", got, want);
    CHECKS.due("methods of the face", want.size(), 41);
  }

  private static String plain(String text) {
    return text.replace("java.lang.", "").replace(",", ", ");
  }

  private static List<Class<?>> classes() {
    List<Class<?>> all = new ArrayList<>(List.of(GreyReel.class));
    all.addAll(List.of(GreyReel.class.getDeclaredClasses()));
    return all;
  }

  private static void members() {
    TreeSet<String> open = new TreeSet<>();
    for (Method method : GreyReel.class.getDeclaredMethods()) {
      if (Modifier.isPublic(method.getModifiers())) {
        open.add(method.getName());
      }
    }
    CHECKS.holds("not more than 12 classes", classes().size() <= 12);
    for (Class<?> type : classes()) {
      int fields = 0;
      for (Field field : type.getDeclaredFields()) {
        boolean isStatic = Modifier.isStatic(field.getModifiers());
        boolean isFinal = Modifier.isFinal(field.getModifiers());
        CHECKS.holds(field + " is final, if it is static", isFinal || !isStatic);
        boolean isPrivate = Modifier.isPrivate(field.getModifiers());
        CHECKS.holds(field + " is private, on the face", isPrivate || type != GreyReel.class);
        fields += isStatic ? 0 : 1;
      }
      CHECKS.holds(type + " has not more than 20 fields", fields <= 20);
      for (Method method : type.getDeclaredMethods()) {
        boolean isOpen = Modifier.isPublic(method.getModifiers()) && type == GreyReel.class;
        CHECKS.holds(method + " has no name of the face", isOpen || !open.contains(method.getName()));
        CHECKS.holds(method + " has not more than 7 parameters", method.getParameterCount() <= 7);
      }
    }
  }

  private static void words(String source) {
    String[] banned = {
      "->", "::", "\\bcatch\\b", "\\btry\\b", "\\bfinally\\b", "\\bsynchronized\\b", "\\bassert\\b",
      "\"\\s*\\+", "\\+\\s*\"", "Exact\\b", "\\bequals\\b", "\\bhashCode\\b", "\\btoString\\b",
      "\\bdouble\\s+\\w+\\s*=", "\\bfloat\\b", "\\bSystem\\.(?!arraycopy)", "\\bpackage\\b",
      "\\bArrays\\.(?!copyOf\\(|copyOfRange\\(|fill\\()", "\\bMath\\.(?!abs|max|min)", "\\t"
    };
    for (String word : banned) {
      Matcher matcher = Pattern.compile(word).matcher(source);
      CHECKS.holds("the file has no " + word, !matcher.find());
    }
    for (String line : source.split("\n")) {
      boolean isImport = line.startsWith("import ");
      CHECKS.holds(line, !isImport || line.equals("import java.util.Arrays;"));
      CHECKS.holds("not more than 100 signs: " + line, line.length() <= 100);
      CHECKS.holds("signs 1 to 127: " + line, line.chars().allMatch(c -> c >= 1 && c <= 127));
    }
  }

  /** The names that each method calls; a name stands for all methods that bear it. */
  private static Map<String, TreeSet<String>> calls(String source) {
    Map<String, TreeSet<String>> calls = new TreeMap<>();
    Matcher matcher = METHOD.matcher(source);
    while (matcher.find()) {
      String indent = source.substring(matcher.start()).startsWith("    ") ? "\n    }" : "\n  }";
      String body = source.substring(matcher.end(), source.indexOf(indent, matcher.end() - 1) + 1);
      int lines = body.split("\n").length + 2;
      CHECKS.holds(matcher.group(1) + " has not more than 60 lines", lines <= 60);
      TreeSet<String> called = calls.computeIfAbsent(matcher.group(1), n -> new TreeSet<>());
      Matcher call = CALLED.matcher(body);
      while (call.find()) {
        called.add(call.group(1));
      }
      called.removeAll(List.of("if", "for", "while", "switch", "return"));
    }
    return calls;
  }

  private static int depth(String name, Map<String, TreeSet<String>> calls, List<String> open) {
    CHECKS.holds(name + " does not call itself by way of " + open, !open.contains(name));
    if (open.contains(name) || open.size() > 20) {
      return 99;
    }
    open.add(name);
    int deepest = 0;
    for (String called : calls.getOrDefault(name, new TreeSet<>())) {
      deepest = Math.max(deepest, depth(called, calls, open));
    }
    open.remove(name);
    return deepest + 1;
  }

  private static void depths(String source) {
    Map<String, TreeSet<String>> calls = calls(source);
    CHECKS.holds("the methods are found", calls.size() > 80 && calls.containsKey("smoothAcross"));
    for (Method method : GreyReel.class.getDeclaredMethods()) {
      if (Modifier.isPublic(method.getModifiers())) {
        int depth = depth(method.getName(), calls, new ArrayList<>());
        CHECKS.holds(method.getName() + " goes not more than 8 deep: " + depth, depth <= 8);
      }
    }
  }

  /** What a run of 512 of the dearest calls makes, in bytes, is far below the room that there is. */
  private static void room() {
    com.sun.management.ThreadMXBean threads =
        (com.sun.management.ThreadMXBean) java.lang.management.ManagementFactory.getThreadMXBean();
    long made = 0;
    Map<String, Long> answers = new LinkedHashMap<>();
    for (int round = 0; round < 2; round++) {
      long before = threads.getCurrentThreadAllocatedBytes();
      long sum = 0;
      GreyReel x = new GreyReel();
      for (int i = 0; i < 24; i++) {
        x.noise(i, 60);
        sum += x.bytesWith(1 + i) + x.priceOf(i % 12) + x.code();
        sum += x.handAll(i) + x.driftNext() + x.show() + x.digest();
      }
      made = threads.getCurrentThreadAllocatedBytes() - before;
      answers.put("round " + round, sum);
    }
    CHECKS.due("the same calls", answers.get("round 1"), answers.get("round 0"));
    CHECKS.holds("a run makes not more than 1 MB: " + made, made <= 1_000_000);
  }

  public static void main(String[] args) throws IOException {
    String source = Files.readString(SOURCE);
    face();
    members();
    words(source);
    depths(source);
    room();
    CHECKS.end();
  }
}
