import java.io.IOException;
import java.lang.reflect.Method;
import java.lang.reflect.Modifier;
import java.net.URL;
import java.net.URLClassLoader;
import java.nio.file.Files;
import java.nio.file.Path;
import java.util.Comparator;
import java.util.List;
import java.util.regex.Matcher;
import java.util.regex.Pattern;
import java.util.stream.Collectors;
import java.util.stream.Stream;
import javax.tools.JavaCompiler;
import javax.tools.ToolProvider;

/** What README.md shows of the use of the class: its blocks are compiled as one program, and run. */
public final class ReadmeTest {
  private static final Pattern BLOCK = Pattern.compile("(?s)```java\n(.*?)```");
  /** A call alone in its line, with what it answers: "int name = " if it is kept, the call, the answer, why. */
  private static final Pattern ANSWERED =
      Pattern.compile("((?:int|long) \\w+ = )?(cover\\.\\w+\\(.*\\));\\s+// (-?\\d+|[A-Z]+)(: .*)?");
  private static final Pattern CALL = Pattern.compile("cover\\.(\\w+)\\(");

  public static void main(String[] args) throws Exception {
    String path = System.getenv("RAINCOVER_README");
    Path readme = Path.of(path == null ? "README.md" : path).toAbsolutePath();
    String text = Files.readString(readme);
    String shown = BLOCK.matcher(text).results().map(block -> block.group(1)).collect(Collectors.joining());
    everyCallIsShown(shown);
    everyCallHasAnAnswer(shown);
    answersAreAsShown(shown);
    testsAreNamed(text, readme.getParent());
    Check.end();
  }

  private static void everyCallIsShown(String shown) {
    List<String> calls = CALL.matcher(shown).results().map(call -> call.group(1)).toList();
    for (Method m : RainCover.class.getDeclaredMethods()) {
      if (!Modifier.isPublic(m.getModifiers())) continue;
      Check.due("README.md shows " + m.getName(), calls.contains(m.getName()) ? 1 : 0, 1);
    }
  }

  /** A loop is shown without its answers. */
  private static void everyCallHasAnAnswer(String shown) {
    for (String line : shown.lines().toList()) {
      if (!CALL.matcher(line).find() || line.startsWith("for (")) continue;
      Check.due("README.md tells the answer: " + line, ANSWERED.matcher(line).matches() ? 1 : 0, 1);
    }
  }

  private static void answersAreAsShown(String shown) throws Exception {
    Path room = Files.createTempDirectory("readme");
    try {
      Path source = Files.writeString(room.resolve("Shown.java"), program(shown));
      JavaCompiler compiler = ToolProvider.getSystemJavaCompiler();
      int failed = compiler.run(null, null, null, "-cp", System.getProperty("java.class.path"),
          "-d", room.toString(), source.toString());
      Check.due("README.md compiles", failed, 0);
      if (failed == 0) run(room);
    } finally {
      remove(room);
    }
  }

  private static void run(Path room) throws Exception {
    try (URLClassLoader loader = new URLClassLoader(new URL[] {room.toUri().toURL()})) {
      loader.loadClass("Shown").getMethod("run").invoke(null);
    }
  }

  private static void remove(Path room) throws IOException {
    try (Stream<Path> files = Files.walk(room)) {
      for (Path file : files.sorted(Comparator.reverseOrder()).toList()) Files.delete(file);
    }
  }

  private static String program(String shown) {
    String body = shown.lines().map(ReadmeTest::asked).collect(Collectors.joining("\n"));
    return "public final class Shown {\n  public static void run() {\n" + body + "\n  }\n}\n";
  }

  /** The line as it stands, but for an answered call, which becomes one that looks at its answer. */
  private static String asked(String line) {
    Matcher m = ANSWERED.matcher(line);
    if (!m.matches()) return line;
    String due = m.group(3).matches("[A-Z]+") ? "RainCover." + m.group(3) : m.group(3) + "L";
    String kept = m.group(1) == null ? "" : m.group(1);
    return kept + "ReadmeTest.answer(\"" + m.group(2) + "\", " + m.group(2) + ", " + due + ");";
  }

  public static int answer(String call, int got, long due) {
    Check.due("README.md: " + call, got, due);
    return got;
  }

  public static long answer(String call, long got, long due) {
    Check.due("README.md: " + call, got, due);
    return got;
  }

  private static void testsAreNamed(String text, Path project) throws IOException {
    Check.due("README.md names .ci/run", text.contains("\n    .ci/run\n") ? 1 : 0, 1);
    try (Stream<Path> files = Files.list(project.resolve("src/test/java"))) {
      for (String name : files.map(file -> file.getFileName().toString().replace(".java", "")).toList()) {
        if (name.endsWith("Test")) Check.due("README.md names " + name, text.contains("`" + name + "`") ? 1 : 0, 1);
      }
    }
  }
}
