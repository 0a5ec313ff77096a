import java.io.IOException;
import java.lang.management.ManagementFactory;
import java.lang.reflect.Constructor;
import java.lang.reflect.Field;
import java.lang.reflect.Member;
import java.lang.reflect.Method;
import java.lang.reflect.Modifier;
import java.nio.file.Files;
import java.nio.file.Path;
import java.util.HashSet;
import java.util.Set;
import java.util.regex.Matcher;
import java.util.regex.Pattern;

/** The rules of LANGUAGE.md that can be looked at from outside, and the room that a run takes. */
public final class LanguageTest {
  private static final String[] FORBIDDEN = {
    "\\bthrow\\b", "\\btry\\b", "\\bcatch\\b", "\\bsynchronized\\b", "\\bassert\\b", "->", "::", "\\bpackage\\b", "@",
    "\\bObject\\b", "\\bException\\b", "\\bThread\\b", "\\bdouble\\b", "\\bfloat\\b", "Exact\\b", "\\bequals\\b",
  };

  /** What the program takes of rule 4's list; it may take more of it. */
  private static final Set<String> LIBRARY = Set.of("Math.abs", "Math.min", "Math.max", "Integer.bitCount",
      "Long.MIN_VALUE", "Arrays.fill", "System.arraycopy");

  public static void main(String[] args) throws IOException {
    face();
    nestedClasses();
    source();
    room();
    Check.end();
  }

  private static void face() {
    Set<String> constants = new HashSet<>(Set.of("NONE", "BAD", "STATE", "FULL", "NO"));
    Set<String> open = new HashSet<>();
    Check.due("rule 1: public and final", RainCover.class.getModifiers() & (Modifier.PUBLIC | Modifier.FINAL),
        Modifier.PUBLIC | Modifier.FINAL);
    for (Constructor<?> c : RainCover.class.getDeclaredConstructors()) visible("constructor", c, true);
    for (Method m : RainCover.class.getDeclaredMethods()) {
      if (Modifier.isPublic(m.getModifiers())) open.add(m.getName());
    }
    Check.due("rule 1: calls of the document", open.size(), 54);
    for (Method m : RainCover.class.getDeclaredMethods()) {
      boolean ownName = !open.contains(m.getName()) || Modifier.isPublic(m.getModifiers());
      Check.due("rule 1: no private method is named " + m.getName(), ownName ? 1 : 0, 1);
      visible(m.getName(), m, Modifier.isPublic(m.getModifiers()));
    }
    for (Field f : RainCover.class.getDeclaredFields()) visible(f.getName(), f, constants.contains(f.getName()));
  }

  private static void visible(String name, Member member, boolean isPublic) {
    int due = isPublic ? Modifier.PUBLIC : Modifier.PRIVATE;
    int access = Modifier.PUBLIC | Modifier.PROTECTED | Modifier.PRIVATE;
    Check.due("rule 1: how " + name + " can be seen", member.getModifiers() & access, due);
  }

  private static void nestedClasses() {
    Class<?>[] nested = RainCover.class.getDeclaredClasses();
    Check.due("rule 11: at most twelve classes", nested.length + 1 <= 12 ? 1 : 0, 1);
    fewFields(RainCover.class);
    for (Class<?> c : nested) {
      Check.due("rule 2: static: " + c.getSimpleName(), Modifier.isStatic(c.getModifiers()) ? 1 : 0, 1);
      Check.due("rule 1: not public: " + c.getSimpleName(), Modifier.isPublic(c.getModifiers()) ? 1 : 0, 0);
      fewFields(c);
    }
  }

  private static void fewFields(Class<?> c) {
    int fields = 0;
    for (Field f : c.getDeclaredFields()) {
      if (!Modifier.isStatic(f.getModifiers())) fields++;
      boolean constant = !Modifier.isStatic(f.getModifiers()) || Modifier.isFinal(f.getModifiers());
      Check.due("rule 5: static fields are final: " + f.getName(), constant ? 1 : 0, 1);
    }
    Check.due("rule 11: at most twenty fields: " + c.getSimpleName(), fields <= 20 ? 1 : 0, 1);
    for (Method m : c.getDeclaredMethods()) {
      Check.due("rule 11: at most seven parameters: " + m.getName(), m.getParameterCount() <= 7 ? 1 : 0, 1);
    }
  }

  private static void source() throws IOException {
    String path = System.getenv("RAINCOVER_SOURCE");
    String text = Files.readString(Path.of(path == null ? "src/main/java/RainCover.java" : path));
    String code = text.replaceAll("(?s)/\\*.*?\\*/", "").replaceAll("//[^\n]*", "");
    library(code);
    depths(code);
    for (String forbidden : FORBIDDEN) {
      Check.due("rule 6: no " + forbidden, Pattern.compile(forbidden).matcher(code).find() ? 1 : 0, 0);
    }
    Matcher imports = Pattern.compile("import ([^;]+);").matcher(code);
    while (imports.find()) {
      boolean listed = Set.of("java.util.ArrayList", "java.util.List", "java.util.Arrays").contains(imports.group(1));
      Check.due("rule 4: import " + imports.group(1), listed ? 1 : 0, 1);
    }
    Check.due("rule 4: signs 1 to 127", text.chars().allMatch(sign -> sign >= 1 && sign <= 127) ? 1 : 0, 1);
  }

  private static void library(String code) {
    Matcher used = Pattern.compile("\\b(Math|Integer|Long|Arrays|System|String|List)\\.(\\w+)").matcher(code);
    while (used.find()) {
      boolean listed = LIBRARY.contains(used.group());
      Check.due("rule 4: " + used.group(), listed ? 1 : 0, 1);
    }
  }

  private static void depths(String code) {
    Calls calls = new Calls(code);
    Check.due("rule 11: methods that were read", calls.methods().size() > 100 ? 1 : 0, 1);
    for (Method m : RainCover.class.getDeclaredMethods()) {
      Check.due("rule 11: read: " + m.getName(), calls.methods().contains("RainCover." + m.getName()) ? 1 : 0, 1);
    }
    for (String method : calls.methods()) {
      Check.due("rule 11: short: " + method, calls.linesOf(method) <= 60 ? 1 : 0, 1);
      Check.due("rule 11: at most eight deep: " + method, Math.max(calls.depthOf(method), 8), 8);
    }
  }

  /** A run of the dearest calls, the second time, when the machine itself has what it needs. */
  private static void room() {
    com.sun.management.ThreadMXBean threads = (com.sun.management.ThreadMXBean) ManagementFactory.getThreadMXBean();
    dearRun();
    long before = threads.getCurrentThreadAllocatedBytes();
    dearRun();
    long made = threads.getCurrentThreadAllocatedBytes() - before;
    Check.due("rule 12: a run of dear calls makes little (" + made + " bytes)", made < 500000 ? 1 : 0, 1);
  }

  private static void dearRun() {
    RainCover c = new RainCover();
    for (int g = 0; g < 8; g++) c.gauge(g * 10, 0, 0);
    c.sheet(0, 2, 12);
    for (int i = 0; i < 40; i++) c.lay(i % 8, i / 8, 0, 2, 0);
    Check.term(c, "pay 5 if sum 0 to 11 < 100 and dry 0 to 11 > 2");
    for (int f = 0; f < 24; f++) {
      c.farm(f * 4, 0, f % 4, 9);
      c.enroll(f, 0, 0);
      c.group(f, 0);
    }
    for (int i = 0; i < 8; i++) c.site(i, i);
    for (int i = 0; i < 32; i++) {
      c.lasts(1000, 0, 40, 40);
      c.line(0, 198, 0);
      c.best(4, 0);
      c.share(3, 0);
      c.settle(i % 16);
      c.foretold(0, 0, 0, 3, 0, 0, 2);
      c.basis(0, 0, 0);
      c.feed('p', 1);
      c.term();
      c.sheet(1, 2, 40);
    }
  }
}
