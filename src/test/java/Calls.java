import java.util.ArrayList;
import java.util.HashMap;
import java.util.HashSet;
import java.util.LinkedHashMap;
import java.util.List;
import java.util.Map;
import java.util.Set;
import java.util.regex.Matcher;
import java.util.regex.Pattern;

/**
 * Which method of the program may call which, read from its source as it is laid out: two blanks a level.
 * Where the source does not tell which of several methods is meant, all of these are taken for called.
 */
final class Calls {
  private static final Pattern CLASS = Pattern.compile("( *)[a-z ]*class (\\w+)(?: extends (\\w+))? \\{");
  private static final Pattern HEAD = Pattern.compile("( +)[\\w<>\\[\\] ]*?\\b(\\w+)\\([^()]*\\) \\{");
  private static final Pattern CALL = Pattern.compile("(?:(\\w+)\\s*\\.\\s*|([\\])])\\s*\\.\\s*)?\\b(\\w+)\\(");
  private static final Set<String> NO_METHODS = Set.of("if", "for", "while", "switch", "return");
  private static final Set<String> LIBRARY = Set.of("Math", "Integer", "Long", "Arrays", "System");

  /** One method, "Class.name", with its lines. */
  private static final class Body {
    final String owner;
    final String name;
    final StringBuilder text = new StringBuilder();
    int lines = 1;

    Body(String owner, String name) {
      this.owner = owner;
      this.name = name;
    }
  }

  private final Map<String, String> above = new HashMap<>();
  private final Map<String, Body> bodies = new LinkedHashMap<>();
  private final Map<String, Integer> depths = new HashMap<>();

  Calls(String source) {
    String owner = "";
    Body open = null;
    String end = "";
    for (String line : source.replaceAll("\"[^\"\n]*\"", "\"\"").lines().toList()) {
      Matcher type = CLASS.matcher(line);
      Matcher head = HEAD.matcher(line);
      if (open != null) {
        open.lines++;
        open.text.append(line).append('\n');
        if (line.equals(end)) open = null;
      } else if (type.matches()) {
        owner = type.group(2);
        above.put(owner, type.group(3) == null ? "" : type.group(3));
      } else if (head.matches()) {
        open = new Body(owner, head.group(2));
        end = head.group(1) + "}";
        bodies.put(owner + "." + open.name, open);
      }
    }
  }

  Set<String> methods() {
    return bodies.keySet();
  }

  int linesOf(String method) {
    return bodies.get(method).lines;
  }

  /** How many calls stand open at once at most, this one counted; more than a hundred if it may call itself. */
  int depthOf(String method) {
    Integer known = depths.get(method);
    if (known != null) return known;
    depths.put(method, 1000);
    int deepest = 0;
    for (String called : calledBy(bodies.get(method))) deepest = Math.max(deepest, depthOf(called));
    depths.put(method, deepest + 1);
    return deepest + 1;
  }

  private Set<String> calledBy(Body body) {
    Set<String> called = new HashSet<>();
    Matcher call = CALL.matcher(body.text);
    while (call.find()) {
      if (NO_METHODS.contains(call.group(3))) continue;
      String qualifier = call.group(2) == null ? call.group(1) : call.group(2);
      called.addAll(meant(body.owner, qualifier, call.group(3)));
    }
    return called;
  }

  private List<String> meant(String owner, String qualifier, String name) {
    List<String> found = new ArrayList<>();
    if (qualifier != null && LIBRARY.contains(qualifier)) return found;
    if ("super".equals(qualifier)) {
      for (String c = above.get(owner); !c.isEmpty(); c = above.get(c)) {
        if (!bodies.containsKey(c + "." + name)) continue;
        found.add(c + "." + name);
        break;
      }
      return found;
    }
    for (Body body : bodies.values()) {
      if (!body.name.equals(name)) continue;
      boolean elsewhere = qualifier != null || body.name.equals(body.owner);
      if (elsewhere || isKin(body.owner, owner) || body.owner.equals("RainCover")) found.add(body.owner + "." + name);
    }
    return found;
  }

  /** Whether the one class is the other, or above or below it. */
  private boolean isKin(String one, String other) {
    return isUnder(one, other) || isUnder(other, one);
  }

  private boolean isUnder(String one, String other) {
    for (String c = one; c != null && !c.isEmpty(); c = above.get(c)) {
      if (c.equals(other)) return true;
    }
    return false;
  }
}
