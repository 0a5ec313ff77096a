import java.lang.reflect.InvocationTargetException;
import java.lang.reflect.Method;
import java.lang.reflect.Modifier;
import java.util.ArrayList;
import java.util.Comparator;
import java.util.List;
import java.util.Random;

/** Runs of 512 drawn calls each, whose answers must be those of Model; the draws are the same each time. */
public final class RandomRunsTest {
  private static final int CALLS = 512;
  private static final int[] EXTREMES = {Integer.MIN_VALUE, Integer.MAX_VALUE, -2, -1, 0, 1, 16, 40, 100, 2000000000};

  private final Random random;
  private final RainCover cover = new RainCover();
  private final Model model = new Model();
  private final List<Method> methods;
  private final StringBuilder log = new StringBuilder();
  private final int gaugeWidth;
  private int calls = 0;

  private RandomRunsTest(long seed, List<Method> methods) {
    this.random = new Random(seed);
    this.methods = methods;
    // Gauges and farms that lie close together share rain and gauges more often.
    this.gaugeWidth = random.nextBoolean() ? 100 : 30;
  }

  public static void main(String[] args) {
    List<Method> methods = new ArrayList<>();
    for (Method m : RainCover.class.getDeclaredMethods()) {
      if (Modifier.isPublic(m.getModifiers())) methods.add(m);
    }
    methods.sort(Comparator.comparing(Method::getName));
    int runs = args.length > 0 ? Integer.parseInt(args[0]) : 400;
    for (int seed = 0; seed < runs; seed++) {
      String wrong = new RandomRunsTest(seed, methods).run(seed % 10 == 9);
      if (wrong == null) continue;
      System.out.println("run " + seed + ": " + wrong);
      System.exit(1);
    }
    System.out.println(runs + " runs of " + CALLS + " calls are as due");
  }

  private String run(boolean wild) {
    if (!wild) prepare();
    while (calls < CALLS && log.length() == 0) {
      Method m = methods.get(random.nextInt(methods.size()));
      int times = m.getName().matches("rain|green|look|farm|enroll|lay|settle") ? 3 : 1;
      for (int i = 0; i < times; i++) call(m.getName(), wild ? wildly(m) : drawn(m));
      if (m.getName().equals("feed") && !wild && random.nextInt(2) == 0) term();
    }
    return log.length() == 0 ? null : log.toString();
  }

  /** So that most runs have something to pay by. */
  private void prepare() {
    for (int i = random.nextInt(4); i >= 0; i--) call("gauge", place(), place(), random.nextInt(4));
    for (int i = random.nextInt(4); i >= 0; i--) term();
    for (int i = random.nextInt(8); i >= 0; i--) call("farm", place(), place(), random.nextInt(4), 1 + random.nextInt(99));
    for (int i = random.nextInt(3); i >= 0; i--) call("sheet", i, random.nextInt(3), 12 + random.nextInt(20));
    for (int i = random.nextInt(20); i >= 0; i--) {
      call("cell", random.nextInt(3), random.nextInt(20), random.nextInt(150));
      call("lay", random.nextInt(4), random.nextInt(16), random.nextInt(3), random.nextInt(3), random.nextInt(6));
    }
    for (int i = random.nextInt(10); i >= 0; i--) call("enroll", random.nextInt(8), random.nextInt(3), random.nextInt(6));
  }

  private int place() {
    return random.nextInt(gaugeWidth);
  }

  private void call(String name, int... args) {
    if (calls >= CALLS || log.length() > 0) return;
    calls++;
    long due = answer(model, name, args);
    long got = answer(cover, name, args);
    if (got == due) return;
    log.append("call ").append(calls).append(": ").append(name).append(java.util.Arrays.toString(args));
    log.append(" answered ").append(got).append(", due is ").append(due);
  }

  private static long answer(Object of, String name, int[] args) {
    Class<?>[] types = new Class<?>[args.length];
    Object[] values = new Object[args.length];
    for (int i = 0; i < args.length; i++) {
      types[i] = int.class;
      values[i] = args[i];
    }
    try {
      Method m = of.getClass().getDeclaredMethod(name, types);
      return ((Number) m.invoke(of, values)).longValue();
    } catch (InvocationTargetException e) {
      throw new IllegalStateException(name + java.util.Arrays.toString(args), e.getCause());
    } catch (ReflectiveOperationException e) {
      throw new IllegalStateException(e);
    }
  }

  private void term() {
    String text = text();
    for (int i = 0; i < text.length(); i += 4) {
      int n = Math.min(4, text.length() - i);
      int bytes = 0;
      for (int j = 0; j < n; j++) bytes = bytes << 8 | text.charAt(i + j);
      call("feed", bytes, n);
    }
    call("term");
  }

  private String text() {
    String text = random.nextInt(3) == 0 ? rate() : pays();
    if (random.nextInt(6) != 0) return text;
    int at = random.nextInt(text.length());
    if (random.nextBoolean()) return text.substring(0, at);
    String signs = " 0123456789<>aeprswdgky" + (char) 200;
    return text.substring(0, at) + signs.charAt(random.nextInt(signs.length())) + text.substring(at + random.nextInt(2));
  }

  private String rate() {
    return "rate " + number(200) + " per " + number(30) + " below " + number(900) + " of sum " + span() + " max "
        + number(3000);
  }

  private String pays() {
    String text = "pay " + number(300) + " if " + oneCase();
    int more = random.nextInt(3) == 0 ? random.nextInt(4) : 0;
    for (int i = 0; i < more; i++) text += " and " + oneCase();
    return text;
  }

  private String oneCase() {
    String op = random.nextInt(3) == 0 ? " > " : " < ";
    switch (random.nextInt(4)) {
      case 0: return "sum " + span() + op + number(800);
      case 1: return "dry " + span() + op + number(6);
      case 2: return "green " + span() + op + number(90);
      default: return "week " + random.nextInt(random.nextInt(12) == 0 ? 100 : 12) + op + number(120);
    }
  }

  private String number(int most) {
    return random.nextInt(20) == 0 ? String.valueOf(random.nextInt(10000)) : String.valueOf(random.nextInt(most));
  }

  private String span() {
    int a = random.nextInt(8);
    return a + " to " + (random.nextInt(15) == 0 ? random.nextInt(20) : a + random.nextInt(12 - a));
  }

  private int[] wildly(Method m) {
    int[] args = new int[m.getParameterCount()];
    for (int i = 0; i < args.length; i++) {
      args[i] = random.nextBoolean() ? EXTREMES[random.nextInt(EXTREMES.length)] : random.nextInt(5);
    }
    return args;
  }

  /** Mostly numbers that the document allows, with some beside these. */
  private int[] drawn(Method m) {
    int[] most = mostOf(m.getName());
    if (most.length != m.getParameterCount()) throw new IllegalStateException(m.getName());
    int[] args = new int[most.length];
    for (int i = 0; i < args.length; i++) {
      args[i] = random.nextInt(most[i] + 1);
      if (random.nextInt(60) == 0) args[i] = EXTREMES[random.nextInt(EXTREMES.length)];
      if (random.nextInt(60) == 0) args[i] = most[i] + 1;
    }
    if (m.getName().matches("rain|green") && random.nextInt(4) == 0) args[3] = -1;
    if (m.getName().equals("group") && random.nextInt(6) == 0) args[1] = -1;
    return args;
  }

  private int[] mostOf(String name) {
    int g = Math.max(0, model.gauges.size() - 1);
    int f = Math.max(0, model.farms.size() - 1);
    int t = Math.max(0, model.terms.size() - 1);
    int p = Math.max(0, model.payments.size() - 1);
    int c = Math.max(0, model.complaints.size() - 1);
    int k = model.tellings.size() + 1;
    int w = gaugeWidth - 1;
    int season = random.nextInt(3) == 0 ? 15 : 5;
    switch (name) {
      case "gauge": return new int[] {w, w, season};
      case "down": return new int[] {g, 16};
      case "law": return new int[] {3, new int[] {198, 9999, 300, 100}[random.nextInt(4)]};
      case "rain": return new int[] {g, season, 11, random.nextInt(6) == 0 ? 9999 : 150};
      case "green": return new int[] {3, season, 11, 100};
      case "seen": return new int[] {3, season, 11, k};
      case "lay": return new int[] {g, season, 2, 2, 8};
      case "told": return new int[] {g, season, 11, k};
      case "filled": return new int[] {g, season, 11, k};
      case "span": return new int[] {g, season, 11, 1};
      case "odd": return new int[] {g, season};
      case "feed": return new int[] {65535, 4};
      case "term": return new int[] {};
      case "pay": return new int[] {t, g, season, 5, 3};
      case "farm": return new int[] {w, w, 3, 98};
      case "plant": return new int[] {3, 5};
      case "enroll": return new int[] {f, t, season};
      case "lapse": return new int[] {f, season};
      case "of": return new int[] {f, season, 5};
      case "due": return new int[] {f, season, k};
      case "line": return new int[] {season, 198, 2};
      case "look": return new int[] {f, season, 300, 50};
      case "basis": return new int[] {t, 3, 1};
      case "site": return new int[] {99, 99};
      case "best": return new int[] {4, 4};
      case "mean": return new int[] {t, g, 5, 3, 1};
      case "price": return new int[] {t, g, 5, 3, 2};
      case "trend": return new int[] {t, g, 5, 3, 1};
      case "beside": return new int[] {t, t, g, 5, 3, 3};
      case "foretold": return new int[] {t, g, season, 12, 5, 3, 3};
      case "income": return new int[] {season};
      case "total": return new int[] {15, season};
      case "layer": return new int[] {15, season, 5000, 9000};
      case "lots": return new int[] {Integer.MAX_VALUE - 1};
      case "lasts": return new int[] {50000, season, 12, 39};
      case "settle": return new int[] {season};
      case "payment": return new int[] {p, 3};
      case "fund": return new int[] {20000};
      case "send": return new int[] {p};
      case "arrive": return new int[] {p, 1};
      case "complain": return new int[] {f, season};
      case "judge": return new int[] {c};
      case "complaint": return new int[] {c, 5};
      case "debt": return new int[] {f};
      case "group": return new int[] {f, random.nextInt(3) == 0 ? 3 : 0};
      case "vote": return new int[] {f, 2};
      case "share": return new int[] {f, season};
      case "act": return new int[] {f, 2, Integer.MAX_VALUE - 1};
      case "trace": return new int[] {7};
      case "taken": return new int[] {f, 3};
      case "count": return new int[] {11};
      case "sheet": return new int[] {2, 2, 40};
      case "cell": return new int[] {2, 24, 70000};
      case "copy": return new int[] {2, 12, 2, 12, 12};
      default: throw new IllegalStateException(name);
    }
  }
}
