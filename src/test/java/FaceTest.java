import java.io.IOException;
import java.lang.reflect.Constructor;
import java.lang.reflect.Field;
import java.lang.reflect.Method;
import java.lang.reflect.Modifier;
import java.nio.file.Files;
import java.nio.file.Path;
import java.util.ArrayList;
import java.util.Arrays;
import java.util.HashMap;
import java.util.List;
import java.util.Map;
import java.util.TreeSet;
import java.util.regex.MatchResult;
import java.util.regex.Pattern;
import java.util.stream.Collectors;

/** "The public face" as DOC.md writes it, against the class and its source: no call less, none more, none otherwise. */
public final class FaceTest {
  private static final Pattern CALL = Pattern.compile("public ((?:int|long) (\\w+)\\(([^)]*)\\));");
  private static final Pattern PROMISED = Pattern.compile("## Promise \\d+: .*\n\n`([^`]*)`: ");
  private static final Pattern CONSTANT = Pattern.compile("(\\w+) = ([^,;]+)[,;]");
  private static final Pattern SECTION = Pattern.compile("Ahead of the calls (.*) the interface says: ---- (.*)\\.");

  public static void main(String[] args) throws IOException {
    String document = Files.readString(file("RAINCOVER_DOCUMENT", "../shared/DOC.md"));
    String source = Files.readString(file("RAINCOVER_SOURCE", "src/main/java/RainCover.java"));
    String face = document.substring(document.indexOf("```java"), document.indexOf("## Terms"));
    theClass();
    constants(face);
    constructor();
    calls(face);
    written(face, source);
    promises(face, document);
    sections(document, source);
    Check.end();
  }

  private static Path file(String name, String otherwise) {
    String path = System.getenv(name);
    return Path.of(path == null ? otherwise : path);
  }

  private static void theClass() {
    int modifiers = RainCover.class.getModifiers();
    Check.due("public final class", Modifier.isPublic(modifiers) && Modifier.isFinal(modifiers) ? 1 : 0, 1);
    Check.due("no package", RainCover.class.getName().equals("RainCover") ? 1 : 0, 1);
    Check.due("no class above", RainCover.class.getSuperclass() == Object.class ? 1 : 0, 1);
    Check.due("no interfaces", RainCover.class.getInterfaces().length, 0);
  }

  private static void constants(String face) {
    Map<String, String> due = new HashMap<>();
    for (String line : face.lines().filter(line -> line.contains("static final")).toList()) {
      String type = line.contains(" long ") ? "long " : "int ";
      CONSTANT.matcher(line).results().forEach(c -> due.put(c.group(1), type + value(c.group(2))));
    }
    Check.due("constants of the document", due.size(), 5);
    Map<String, String> has = new HashMap<>();
    for (Field f : RainCover.class.getFields()) has.put(f.getName(), f.getType() + " " + valueOf(f));
    same("constants", new TreeSet<>(has.entrySet().stream().map(Object::toString).toList()),
        new TreeSet<>(due.entrySet().stream().map(Object::toString).toList()));
  }

  private static long value(String written) {
    return written.equals("Long.MIN_VALUE") ? Long.MIN_VALUE : Long.parseLong(written);
  }

  private static long valueOf(Field constant) {
    try {
      return ((Number) constant.get(null)).longValue();
    } catch (IllegalAccessException e) {
      throw new IllegalStateException(e);
    }
  }

  private static void constructor() {
    Constructor<?>[] all = RainCover.class.getConstructors();
    Check.due("one constructor", all.length, 1);
    Check.due("without parameters", all.length == 1 ? all[0].getParameterCount() : -1, 0);
  }

  private static void calls(String face) {
    TreeSet<String> has = new TreeSet<>();
    for (Method m : RainCover.class.getDeclaredMethods()) {
      if (!Modifier.isPublic(m.getModifiers())) continue;
      String types = Arrays.stream(m.getParameterTypes()).map(Class::getName).collect(Collectors.joining(", "));
      has.add(m.getReturnType() + " " + m.getName() + "(" + types + ")");
      Check.due(m.getName() + " is a call of an object", Modifier.isStatic(m.getModifiers()) ? 1 : 0, 0);
      Check.due(m.getName() + " declares no exception", m.getExceptionTypes().length, 0);
    }
    TreeSet<String> due = new TreeSet<>();
    for (MatchResult call : CALL.matcher(face).results().toList()) {
      due.add(call.group(1).replaceAll("int \\w+(, |\\))", "int$1"));
    }
    Check.due("calls of the document", due.size(), 54);
    same("calls", has, due);
  }

  private static void same(String what, TreeSet<String> has, TreeSet<String> due) {
    for (String one : due) Check.due(what + ": " + one, has.contains(one) ? 1 : 0, 1);
    for (String one : has) Check.due(what + ", not of the document: " + one, due.contains(one) ? 1 : 0, 1);
  }

  /** The names of the parameters, too, and the order. */
  private static void written(String face, String source) {
    int at = 0;
    for (MatchResult call : CALL.matcher(face).results().toList()) {
      int found = source.indexOf("  public " + call.group(1) + " {");
      Check.due("in its place: " + call.group(1), found > at ? 1 : 0, 1);
      at = Math.max(at, found);
    }
  }

  /** Each promise is headed as the face has it, so that what holds the face holds these. */
  private static void promises(String face, String document) {
    List<String> due = new ArrayList<>(List.of("RainCover()"));
    for (MatchResult call : CALL.matcher(face).results().toList()) due.add(call.group(1));
    List<String> heads = PROMISED.matcher(document).results().map(head -> head.group(1)).toList();
    Check.due("promises", heads.size(), 55);
    for (int i = 0; i < due.size(); i++) {
      boolean so = i < heads.size() && heads.get(i).equals(due.get(i));
      Check.due("promise " + (i + 1) + " is " + due.get(i), so ? 1 : 0, 1);
    }
  }

  /** "Ahead of the calls .. the interface says: ---- ..": so does the source. */
  private static void sections(String document, String source) {
    int calls = 0;
    for (MatchResult section : SECTION.matcher(document).results().toList()) {
      int start = source.indexOf("  // ---- " + section.group(2) + "\n");
      int end = source.indexOf("  // ---- ", start + 1);
      for (String name : section.group(1).replace("`", "").split(", ")) {
        int at = Math.max(source.indexOf("  public int " + name + "("), source.indexOf("  public long " + name + "("));
        Check.due(name + " stands behind ---- " + section.group(2), start >= 0 && start < at && at < end ? 1 : 0, 1);
        calls++;
      }
    }
    Check.due("calls in sections", calls, 54);
  }
}
