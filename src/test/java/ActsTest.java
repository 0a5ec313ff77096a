/** Promises 49 to 55: acts, the trace, kinds, counts, sheets. */
public final class ActsTest {
  public static void main(String[] args) {
    actsOfCrop();
    actsOfGrain();
    actsOfMaize();
    actsOfBean();
    noActs();
    wrapping();
    taken();
    counts();
    sheets();
    cells();
    cellsOfSorts();
    copies();
    Check.end();
  }

  /** FARMS of all four KINDS, FARM 0 being a CROP, with AREA 10, 11, 12, 13. */
  private static RainCover fourKinds() {
    RainCover c = new RainCover();
    for (int kind = 0; kind < 4; kind++) c.farm(0, 0, kind, 10 + kind);
    return c;
  }

  private static void traced(String text, RainCover c, int... bodies) {
    Check.due("52: bodies of " + text, c.count(10), bodies.length);
    for (int i = 0; i < bodies.length; i++) Check.due("50: " + text + ", " + i, c.trace(i), bodies[i]);
    Check.due("50: behind the last of " + text, c.trace(bodies.length), RainCover.NONE);
    Check.due("50: ahead of the first of " + text, c.trace(-1), RainCover.NONE);
  }

  private static void actsOfCrop() {
    RainCover c = fourKinds();
    Check.due("49: drinks", c.act(0, 0, 5), 15);
    traced("drinks", c, 10);
    Check.due("49: wilts", c.act(0, 1, 5), 45);
    traced("wilts", c, 11, 10);
    Check.due("49: yields", c.act(0, 2, 5), 45 ^ 14);
    traced("yields", c, 12, 11, 10, 10);
  }

  private static void actsOfGrain() {
    RainCover c = fourKinds();
    Check.due("49: drinks", c.act(1, 0, 5), 15);
    traced("grain drinks", c, 20, 10);
    Check.due("49: wilts", c.act(1, 1, 5), 45);
    traced("grain wilts", c, 11, 20, 10);
    Check.due("49: yields", c.act(1, 2, 5), 45 ^ 14);
    traced("grain yields", c, 12, 11, 20, 10, 20, 10);
  }

  private static void actsOfMaize() {
    RainCover c = fourKinds();
    Check.due("49: drinks", c.act(2, 0, 5), 15);
    traced("maize drinks", c, 20, 10);
    Check.due("49: wilts", c.act(2, 1, 5), 46);
    traced("maize wilts", c, 30, 11, 20, 10);
    Check.due("49: yields", c.act(2, 2, 5), 52 ^ 16);
    traced("maize yields", c, 31, 12, 30, 11, 20, 10, 20, 10);
  }

  private static void actsOfBean() {
    RainCover c = fourKinds();
    Check.due("49: drinks", c.act(3, 0, 5), 18 ^ 5);
    traced("bean drinks", c, 41, 10);
    Check.due("49: wilts", c.act(3, 1, 5), (18 ^ 5) * 6);
    traced("bean wilts", c, 40, 11, 41, 10);
    Check.due("49: yields", c.act(3, 2, 5), (18 ^ 5) * 6 ^ (17 ^ 5));
    traced("bean yields", c, 12, 40, 11, 41, 10, 41, 10);
  }

  private static void noActs() {
    RainCover c = fourKinds();
    int[][] wrong = {{4, 0}, {-1, 0}, {0, 3}, {0, -1}};
    for (int[] w : wrong) {
      c.act(0, 2, 1);
      Check.due("49: none such", c.act(w[0], w[1], 7), 0);
      traced("none such", c);
    }
    c.act(2, 2, 1);
    c.act(0, 0, 1);
    traced("the latest alone", c, 10);
    c.taken(2, 2);
    c.count(3);
    traced("other calls leave it", c, 10);
  }

  private static void wrapping() {
    RainCover c = fourKinds();
    int x = Integer.MAX_VALUE;
    Check.due("49: wraps", c.act(0, 0, x), x + 10);
    Check.due("49: wraps", c.act(0, 1, x), (x + 10) * 3);
    Check.due("49: wraps", c.act(2, 2, x), ((x + 2 + 10) * 3 + 1) ^ (x + 1 + 10));
    int y = Integer.MIN_VALUE;
    Check.due("49: wraps", c.act(0, 2, y), ((y + 10) * 3) ^ (y - 1 + 10));
  }

  private static void taken() {
    RainCover c = fourKinds();
    int[][] due = {{0, -13, -13, -13}, {1, 1, -13, -13}, {2, 2, 2, -13}, {3, -13, -13, 3}};
    for (int farm = 0; farm < 4; farm++) {
      for (int k = 0; k < 4; k++) Check.due("51: " + farm + " for " + k, c.taken(farm, k), due[farm][k]);
    }
    Check.due("51: k ahead of farm", c.taken(9, 4), RainCover.BAD);
    Check.due("51: k", c.taken(0, -1), RainCover.BAD);
    Check.due("51: farm", c.taken(4, 0), -11);
    Check.due("51: farm", c.taken(-1, 3), -11);
  }

  private static void counts() {
    RainCover c = fourKinds();
    c.gauge(0, 0, 0);
    c.gauge(0, 0, 0);
    c.rain(0, 0, 0, 1);
    c.green(0, 0, 0, 1);
    c.rain(0, 0, 0, 2);
    Check.term(c, "pay 6 if week 0 < 100");
    c.feed(0, 4);
    c.feed(0, 3);
    for (int f = 0; f < 4; f++) c.enroll(f, 0, 0);
    c.lapse(0, 0);
    c.enroll(0, 0, 0);
    c.look(0, 0, 1, 1);
    for (int i = 0; i < 6; i++) c.look(1, i, 1, 1);
    for (int i = 0; i < 8; i++) c.site(i, i);
    c.settle(0);
    c.settle(1);
    c.settle(2);
    c.fund(1000);
    c.send(0);
    c.act(2, 2, 0);
    for (int i = 0; i < 11; i++) c.complain(2, i);
    int[] due = {2, 3, 1, 4, 5, 7, 8, 12, 7, 1000 - 60, 8, 11};
    for (int what = 0; what < due.length; what++) Check.due("52: " + what, c.count(what), due[what]);
    Check.due("52: what", c.count(12), RainCover.BAD);
    Check.due("52: what", c.count(-1), RainCover.BAD);
  }

  private static void sheets() {
    RainCover c = new RainCover();
    Check.due("53: missing at first", c.cell(0, 0, 0), -11);
    Check.due("53: of 40", c.sheet(0, 2, 40), 1);
    Check.due("53: of 0", c.sheet(1, 0, 0), 1);
    Check.due("53: sheet", c.sheet(3, 0, 0), RainCover.BAD);
    Check.due("53: sheet", c.sheet(-1, -1, 0), RainCover.BAD);
    Check.due("53: sort", c.sheet(0, 3, -1), RainCover.BAD);
    Check.due("53: sort", c.sheet(0, -2, -1), RainCover.BAD);
    Check.due("53: n above", c.sheet(0, 0, 41), RainCover.BAD);
    Check.due("53: n below", c.sheet(0, 0, -1), -14);
    Check.due("53: it is there still", c.cell(0, 39, 5), 1);
    Check.due("53: missing, n does not matter", c.sheet(0, -1, 99), 1);
    Check.due("53: missing", c.cell(0, 39, 5), -11);
    Check.due("53: missing, n does not matter", c.sheet(0, -1, -99), 1);

    c.gauge(0, 0, 0);
    c.sheet(2, 2, 12);
    c.cell(2, 3, 44);
    c.sheet(2, 2, 12);
    c.lay(0, 0, 2, 2, 0);
    for (int week = 0; week < 12; week++) Check.due("53: all 0", c.told(0, 0, week, 12), 0);
  }

  private static void cells() {
    RainCover c = new RainCover();
    c.sheet(0, 2, 3);
    Check.due("54: first", c.cell(0, 0, Integer.MIN_VALUE), 1);
    Check.due("54: last", c.cell(0, 2, 1), 1);
    Check.due("54: beyond", c.cell(0, 3, 1), -12);
    Check.due("54: below", c.cell(0, -1, 1), -12);
    Check.due("54: far below", c.cell(0, Integer.MIN_VALUE, 1), -12);
    Check.due("54: sheet", c.cell(3, 0, 1), RainCover.BAD);
    Check.due("54: sheet", c.cell(-1, 0, 1), RainCover.BAD);
    Check.due("54: missing", c.cell(1, 9, 1), -11);
    c.sheet(1, 1, 0);
    Check.due("54: of none", c.cell(1, 0, 1), -12);
  }

  private static void cellsOfSorts() {
    int[][] due = {{127, 127, 127, 127}, {128, -1, 128, 128}, {256 + 5, 5, 261, 261}, {-256, 0, -1, -1},
      {40000, 64, -1, -1}, {65536 + 9, 9, 9, -1}, {-65536 + 300, 44, 300, -1}};
    for (int sort = 0; sort < 3; sort++) {
      RainCover c = new RainCover();
      c.gauge(0, 0, 0);
      c.sheet(0, sort, 12);
      for (int i = 0; i < due.length; i++) c.cell(0, i, due[i][0]);
      c.lay(0, 0, 0, sort, 0);
      for (int i = 0; i < due.length; i++) {
        Check.due("54: " + due[i][0] + " of sort " + sort, c.told(0, 0, i, 12), due[i][sort + 1]);
      }
    }
  }

  /** What a SHEET of ints has, by laying it as RAIN. */
  private static void row(String text, RainCover c, int sheet, int... due) {
    int last = c.lay(0, 0, sheet, 2, 0);
    for (int week = 0; week < due.length; week++) {
      Check.due("55: " + text + ", " + week, c.told(0, 0, week, last), due[week]);
    }
  }

  private static void copies() {
    RainCover c = new RainCover();
    c.gauge(0, 0, 0);
    c.sheet(0, 2, 12);
    c.sheet(1, 2, 14);
    for (int i = 0; i < 12; i++) c.cell(0, i, i + 1);
    Check.due("55: to another", c.copy(0, 1, 1, 3, 4), 4);
    row("another", c, 1, 0, 0, 0, 2, 3, 4, 5, 0, 0, 0, 0, 0);
    row("the first stays", c, 0, 1, 2, 3, 4, 5, 6, 7, 8, 9, 10, 11, 12);
    Check.due("55: onward", c.copy(0, 0, 0, 2, 10), 10);
    row("onward", c, 0, 1, 2, 1, 2, 3, 4, 5, 6, 7, 8, 9, 10);
    Check.due("55: back", c.copy(0, 2, 0, 0, 10), 10);
    row("back", c, 0, 1, 2, 3, 4, 5, 6, 7, 8, 9, 10, 9, 10);
    Check.due("55: none at the end", c.copy(0, 12, 1, 14, 0), 0);
    Check.due("55: all", c.copy(0, 0, 1, 2, 12), 12);
    Check.due("55: sheet", c.copy(3, 0, 0, 0, 0), RainCover.BAD);
    Check.due("55: other", c.copy(0, 0, -1, 0, 0), RainCover.BAD);
    Check.due("55: missing", c.copy(0, -1, 2, 0, 0), -11);
    Check.due("55: missing", c.copy(2, -1, 0, 0, 0), -11);
    c.sheet(2, 1, 12);
    Check.due("55: another sort", c.copy(0, -1, 2, 0, 0), -13);
    int[][] wrong = {{0, 0, -1}, {-1, 0, 0}, {0, -1, 0}, {0, 0, 13}, {1, 0, 12}, {13, 0, 0}, {0, 15, 0}, {0, 3, 12},
      {Integer.MAX_VALUE, 0, 1}, {0, Integer.MAX_VALUE, 1}, {0, 0, Integer.MAX_VALUE}, {1, 1, Integer.MAX_VALUE},
      {0, 0, Integer.MIN_VALUE}, {Integer.MIN_VALUE, 0, 1}, {Integer.MIN_VALUE, 0, Integer.MIN_VALUE}};
    for (int[] w : wrong) Check.due("55: beyond", c.copy(0, w[0], 1, w[1], w[2]), -12);
  }
}
