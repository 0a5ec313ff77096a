/** Boundary cases of promises 49 to 55. */
final class EdgesOfActs extends Edges {
  static void run() {
    actsOfCrop();
    actsOfGrain();
    actsOfMaize();
    actsOfBean();
    actWrapping();
    actRefused();
    trace();
    taken();
    count();
    sheet();
    sheetRefused();
    cell();
    cellBits();
    copy();
    copyOverItself();
    copyRefused();
  }

  /** Eight FARMS: number 4 and more have the KINDS 0 .. 3 again, with AREA 99. */
  private static RainCover ready() {
    RainCover c = new RainCover();
    for (int f = 0; f < 8; f++) c.farm(0, 0, f % 4, f < 4 ? 1 : 99);
    return c;
  }

  private static void ran(RainCover c, int... bodies) {
    due(c.count(10), bodies.length);
    for (int i = 0; i < bodies.length; i++) due(c.trace(i), bodies[i]);
    due(c.trace(bodies.length), NONE);
    due(c.trace(-1), NONE);
  }

  private static void actsOfCrop() {
    says(49, "An ACT of a FARM's CROP with x.",
        "ACTS of CROPS of FARMS, with x (wrapping): 0 drinks, 1 wilts, 2 yields; m the FARM's number, a its AREA.",
        "BODIES, each with its number: CROP: 10 drinks: x + a. 11 wilts: drinks(x) * 3. 12 yields: wilts(x) ^ "
        + "drinks(x - 1).");
    for (int x : new int[] {0, 1, -1, -99, 1000}) {
      RainCover c = ready();
      due(c.act(0, 0, x), x + 1);
      ran(c, 10);
      due(c.act(4, 0, x), x + 99);
      ran(c, 10);
      due(c.act(4, 1, x), (x + 99) * 3);
      ran(c, 11, 10);
      due(c.act(4, 2, x), (x + 99) * 3 ^ (x + 98));
      ran(c, 12, 11, 10, 10);
    }
  }

  private static void actsOfGrain() {
    says(49, "GRAIN: 20 drinks: super.drinks(x) - m.");
    for (int x : new int[] {0, 1, -1, -99, 1000}) {
      RainCover c = ready();
      due(c.act(1, 0, x), x + 1 - 1);
      due(c.act(5, 0, x), x + 99 - 5);
      ran(c, 20, 10);
      due(c.act(5, 1, x), (x + 94) * 3);
      ran(c, 11, 20, 10);
      due(c.act(5, 2, x), (x + 94) * 3 ^ (x + 93));
      ran(c, 12, 11, 20, 10, 20, 10);
    }
  }

  private static void actsOfMaize() {
    says(49, "MAIZE: 30 wilts: super.wilts(x) + 1. 31 yields: super.yields(x + 2).",
        "drinks(..) and so on: the body of the CROP's KIND, or, if that has none, of the next KIND above that has "
        + "one; super.drinks(..): so from the KIND above the body's on.");
    for (int x : new int[] {0, 1, -1, -99, 1000}) {
      RainCover c = ready();
      due(c.act(6, 0, x), x + 99 - 6);
      ran(c, 20, 10);
      due(c.act(6, 1, x), (x + 93) * 3 + 1);
      ran(c, 30, 11, 20, 10);
      due(c.act(6, 2, x), (x + 95) * 3 + 1 ^ (x + 94));
      ran(c, 31, 12, 30, 11, 20, 10, 20, 10);
    }
  }

  private static void actsOfBean() {
    says(49, "BEAN: 40 wilts: super.wilts(x) * 2. 41 drinks: super.drinks(x) ^ 5.");
    for (int x : new int[] {0, 1, -1, -99, 1000}) {
      RainCover c = ready();
      due(c.act(7, 0, x), x + 99 ^ 5);
      ran(c, 41, 10);
      due(c.act(7, 1, x), (x + 99 ^ 5) * 6);
      ran(c, 40, 11, 41, 10);
      due(c.act(7, 2, x), (x + 99 ^ 5) * 6 ^ (x + 98 ^ 5));
      ran(c, 12, 40, 11, 41, 10, 41, 10);
    }
  }

  private static void actWrapping() {
    says(49, "with x (wrapping)");
    for (int x : new int[] {HIGHEST, HIGHEST - 98, HIGHEST - 99, LOWEST, LOWEST + 1, 1 << 30, -(1 << 30), 715827883}) {
      RainCover c = ready();
      due(c.act(4, 0, x), x + 99);
      due(c.act(4, 1, x), (x + 99) * 3);
      due(c.act(4, 2, x), (x + 99) * 3 ^ (x - 1 + 99));
      due(c.act(5, 0, x), x + 99 - 5);
      due(c.act(6, 1, x), (x + 99 - 6) * 3 + 1);
      due(c.act(6, 2, x), ((x + 2 + 99 - 6) * 3 + 1) ^ (x + 1 + 99 - 6));
      due(c.act(7, 1, x), (x + 99 ^ 5) * 3 * 2);
      due(c.act(7, 2, x), ((x + 99 ^ 5) * 6) ^ (x - 1 + 99 ^ 5));
    }
  }

  private static void actRefused() {
    says(49, "0, and no TRACE then: no such FARM, act.");
    int[][] refused = {{-1, 0}, {8, 0}, {24, 0}, {LOWEST, 0}, {HIGHEST, 0}, {0, -1}, {0, 3}, {0, LOWEST},
      {0, HIGHEST}, {8, 3}};
    for (int[] r : refused) {
      RainCover c = ready();
      c.act(6, 2, 1);
      due(c.count(10), 8);
      due(c.act(r[0], r[1], 7), 0);
      ran(c);
      due(c.act(0, 0, 7), 8);
      ran(c, 10);
    }
    RainCover none = new RainCover();
    due(none.act(0, 0, 7), 0);
    ran(none);
    // An ACT may be 0, too; it has a TRACE.
    RainCover zero = ready();
    due(zero.act(0, 0, -1), 0);
    ran(zero, 10);
  }

  private static void trace() {
    says(50, "THE TRACE's i-th body.",
        "THE TRACE: the numbers of the bodies that ran in the latest act(), in the order in which they began; the "
        + "first 20 are kept.");
    RainCover c = ready();
    ran(c);
    c.act(2, 2, 0);
    ran(c, 31, 12, 30, 11, 20, 10, 20, 10);
    c.act(6, 1, 0);
    ran(c, 30, 11, 20, 10);
    c.act(2, 0, 0);
    ran(c, 20, 10);
    c.act(2, 2, 0);
    ran(c, 31, 12, 30, 11, 20, 10, 20, 10);
    c.taken(0, 0);
    c.farm(0, 0, 3, 1);
    ran(c, 31, 12, 30, 11, 20, 10, 20, 10);

    says(50, "NONE: none such.");
    range(0, 7, NONE, c::trace);
    for (int i : new int[] {19, 20, 21}) due(c.trace(i), NONE);
    due(new RainCover().trace(0), NONE);
  }

  private static void taken() {
    says(51, "A FARM's CROP taken for one of KIND k (0 .. 3), or one under that: its KIND.", "-13.",
        "CROPS, by KIND: 0 CROP, 1 GRAIN under CROP, 2 MAIZE under GRAIN, 3 BEAN under CROP:");
    RainCover c = ready();
    int[][] due = {{0, -13, -13, -13}, {1, 1, -13, -13}, {2, 2, 2, -13}, {3, -13, -13, 3}};
    for (int farm = 0; farm < 8; farm++) {
      for (int k = 0; k < 4; k++) due(c.taken(farm, k), due[farm % 4][k]);
    }

    says(51, "BAD: k; -11: no such FARM;");
    range(0, 3, BAD, k -> ready().taken(2, k));
    range(0, 7, -11, farm -> ready().taken(farm, 0));
    due(c.taken(8, 4), BAD);
    due(c.taken(-1, -1), BAD);
    due(c.taken(8, 3), -11);
    due(new RainCover().taken(0, 0), -11);
  }

  private static void count() {
    says(52, "How many: 0 GAUGES, 1 TELLINGS, 2 TERMS, 3 FARMS, 4 COVERS, 5 LOOKED AT, 6 SITES, 7 PAYMENTS, 8 bytes "
        + "of THE TAPE, 9 what the FUND has, 10 bodies that ran in the latest act(), 11 COMPLAINTS.");
    RainCover c = new RainCover();
    int[] due = new int[12];
    counts(c, due);
    c.gauge(0, 0, 0);
    due[0] = 1;
    counts(c, due);
    c.rain(0, 0, 0, -1);
    c.green(0, 0, 0, -1);
    due[1] = 2;
    counts(c, due);
    Check.term(c, BELOW_100);
    due[2] = 1;
    counts(c, due);
    c.farm(0, 0, 0, 1);
    due[3] = 1;
    counts(c, due);
    c.enroll(0, 0, 0);
    c.lapse(0, 3);
    c.enroll(0, 0, 3);
    due[4] = 2;
    counts(c, due);
    c.lapse(0, 3);
    counts(c, due);
    c.look(0, 0, 0, 0);
    c.look(0, 0, 5, 0);
    due[5] = 1;
    counts(c, due);
    c.site(0, 0);
    due[6] = 1;
    counts(c, due);
    c.settle(0);
    due[7] = 1;
    counts(c, due);
    c.feed(0, 3);
    due[8] = 3;
    counts(c, due);
    c.fund(70);
    due[9] = 70;
    counts(c, due);
    c.act(0, 2, 0);
    due[10] = 4;
    counts(c, due);
    c.complain(0, 0);
    due[11] = 1;
    counts(c, due);
    c.lay(0, 0, 0, 0, 0);
    c.term();
    due[8] = 0;
    counts(c, due);
    c.act(1, 0, 0);
    due[10] = 0;
    counts(c, due);

    says(52, "BAD.");
    range(0, 11, BAD, c::count);
  }

  private static void counts(RainCover c, int[] due) {
    for (int what = 0; what < 12; what++) due(c.count(what), due[what]);
  }

  private static void sheet() {
    says(53, "A SHEET becomes a row of n of a sort, all 0, or missing (sort -1: n does not matter): 1.",
        "SHEETS 0 .. 2 are rows of numbers, or missing (as all are at first): of sort 0 bytes, 1 shorts, 2 ints.");
    RainCover c = new RainCover();
    c.gauge(0, 0, 0);
    for (int sheet = 0; sheet < 3; sheet++) due(c.cell(sheet, 0, 1), -11);
    for (int sheet = 0; sheet < 3; sheet++) {
      for (int sort = 0; sort < 3; sort++) {
        due(c.sheet(sheet, sort, 40), 1);
        due(c.cell(sheet, 39, 7), 1);
        due(c.cell(sheet, 40, 7), -12);
        due(c.copy(sheet, 0, sheet, 0, 40), 40);
        due(c.sheet(sheet, sort, 0), 1);
        due(c.cell(sheet, 0, 7), -12);
        due(c.copy(sheet, 0, sheet, 0, 0), 0);
      }
      for (int n : new int[] {0, 40, 41, -1, LOWEST, HIGHEST}) {
        c.sheet(sheet, 2, 12);
        due(c.sheet(sheet, -1, n), 1);
        due(c.cell(sheet, 0, 1), -11);
        due(c.lay(0, 0, sheet, 2, 0), -11);
      }
    }
    RainCover d = new RainCover();
    d.gauge(0, 0, 0);
    for (int n : new int[] {12, 40, 13}) {
      for (int i = 0; i < 12; i++) d.cell(1, i, 99);
      due(d.sheet(1, 2, n), 1);
      int last = d.lay(0, 0, 1, 2, n - 12);
      for (int week = 0; week < 12; week++) due(d.told(0, 0, week, last), 0);
    }
  }

  private static void sheetRefused() {
    says(53, "BAD: no such SHEET, sort; n above 40; -14: n below 0.");
    range(0, 2, BAD, sheet -> new RainCover().sheet(sheet, 0, 1));
    range(0, 2, BAD, sheet -> new RainCover().sheet(sheet, -1, 1));
    range(-1, 2, BAD, sort -> new RainCover().sheet(0, sort, 1));
    for (int n : new int[] {41, 1000, HIGHEST}) due(new RainCover().sheet(0, 0, n), BAD);
    for (int n : new int[] {-1, -40, LOWEST}) due(new RainCover().sheet(0, 0, n), -14);
    for (int n : new int[] {0, 40}) due(new RainCover().sheet(0, 0, n), 1);
    due(new RainCover().sheet(3, 0, -1), BAD);
    due(new RainCover().sheet(0, 3, -1), BAD);
    due(new RainCover().sheet(0, -2, -1), BAD);
    RainCover c = new RainCover();
    c.sheet(0, 1, 5);
    c.sheet(0, 2, 41);
    c.sheet(0, 2, -1);
    c.sheet(0, 3, 9);
    due(c.cell(0, 4, 1), 1);
    due(c.cell(0, 5, 1), -12);
    c.sheet(1, 1, 5);
    due(c.copy(0, 0, 1, 0, 5), 5);
  }

  private static void cell() {
    says(54, "BAD: no such SHEET;");
    range(0, 2, BAD, sheet -> new RainCover().cell(sheet, 0, 1));
    due(new RainCover().cell(3, -1, 1), BAD);

    says(54, "-11: it is missing;");
    for (int sheet = 0; sheet < 3; sheet++) {
      due(new RainCover().cell(sheet, 0, 1), -11);
      due(new RainCover().cell(sheet, -1, 1), -11);
      due(new RainCover().cell(sheet, 40, 1), -11);
    }

    says(54, "-12: no such item.");
    for (int n : new int[] {1, 2, 39, 40}) {
      RainCover c = new RainCover();
      c.sheet(2, 0, n);
      range(0, n - 1, -12, i -> c.cell(2, i, 1));
    }
    RainCover empty = new RainCover();
    empty.sheet(0, 0, 0);
    due(empty.cell(0, 0, 1), -12);
    due(empty.cell(0, -1, 1), -12);
  }

  private static void cellBits() {
    says(54, "Item i of a SHEET becomes v (of bytes, shorts its lowest 8, 16 bits): 1.");
    // What is stored, then what it is taken for in a row of bytes, of shorts, of ints; -1 is any that is no RAIN.
    int[][] due = {{0, 0, 0, 0}, {127, 127, 127, 127}, {128, -1, 128, 128}, {255, -1, 255, 255}, {256, 0, 256, 256},
      {383, 127, 383, 383}, {-1, -1, -1, -1}, {-128, -1, -1, -1}, {-129, 127, -1, -1}, {-256, 0, -1, -1},
      {9999, 15, 9999, 9999}, {10000, 16, -1, -1}};
    int[][] more = {{32767, -1, -1, -1}, {32768, 0, -1, -1}, {65535, -1, -1, -1}, {65536, 0, 0, -1}, {65537, 1, 1, -1},
      {-65536, 0, 0, -1}, {-65535, 1, 1, -1}, {-32769, -1, -1, -1}, {HIGHEST, -1, -1, -1}, {LOWEST, 0, 0, -1},
      {LOWEST + 9999, 15, 9999, -1}, {-55537, 15, 9999, -1}};
    for (int[][] rows : new int[][][] {due, more}) {
      for (int sort = 0; sort < 3; sort++) {
        RainCover c = new RainCover();
        c.gauge(0, 0, 0);
        c.sheet(0, sort, 12);
        for (int i = 0; i < 12; i++) due(c.cell(0, i, rows[i][0]), 1);
        c.lay(0, 0, 0, sort, 0);
        for (int i = 0; i < 12; i++) due(c.told(0, 0, i, 12), rows[i][sort + 1]);
      }
    }
  }

  /** SHEETS 0 and 1 of 12 and 14 ints, 1 .. 12 and 101 .. 114. */
  private static RainCover rows() {
    RainCover c = new RainCover();
    c.gauge(0, 0, 0);
    c.sheet(0, 2, 12);
    c.sheet(1, 2, 14);
    for (int i = 0; i < 12; i++) c.cell(0, i, i + 1);
    for (int i = 0; i < 14; i++) c.cell(1, i, i + 101);
    return c;
  }

  private static void holds(RainCover c, int sheet, int... due) {
    int last = c.lay(0, 0, sheet, 2, 0);
    for (int week = 0; week < 12; week++) due(c.told(0, 0, week, last), due[week]);
  }

  private static void copy() {
    says(55, "n items of a SHEET from i on come to another SHEET (or the same) from j on, as they all were before: n.");
    RainCover c = rows();
    due(c.copy(0, 0, 1, 0, 0), 0);
    due(c.copy(0, 12, 1, 14, 0), 0);
    holds(c, 1, 101, 102, 103, 104, 105, 106, 107, 108, 109, 110, 111, 112);
    due(c.copy(0, 11, 1, 13, 1), 1);
    due(c.copy(1, 13, 1, 0, 1), 1);
    holds(c, 1, 12, 102, 103, 104, 105, 106, 107, 108, 109, 110, 111, 112);
    due(c.copy(0, 0, 1, 2, 12), 12);
    holds(c, 1, 12, 102, 1, 2, 3, 4, 5, 6, 7, 8, 9, 10);
    holds(c, 0, 1, 2, 3, 4, 5, 6, 7, 8, 9, 10, 11, 12);
    due(c.copy(1, 1, 0, 4, 3), 3);
    holds(c, 0, 1, 2, 3, 4, 102, 1, 2, 8, 9, 10, 11, 12);
  }

  private static void copyOverItself() {
    says(55, "(or the same) from j on, as they all were before");
    RainCover c = rows();
    due(c.copy(0, 0, 0, 0, 12), 12);
    holds(c, 0, 1, 2, 3, 4, 5, 6, 7, 8, 9, 10, 11, 12);
    due(c.copy(0, 0, 0, 1, 11), 11);
    holds(c, 0, 1, 1, 2, 3, 4, 5, 6, 7, 8, 9, 10, 11);
    due(c.copy(0, 1, 0, 0, 11), 11);
    holds(c, 0, 1, 2, 3, 4, 5, 6, 7, 8, 9, 10, 11, 11);
    due(c.copy(0, 2, 0, 5, 6), 6);
    holds(c, 0, 1, 2, 3, 4, 5, 3, 4, 5, 6, 7, 8, 11);
    due(c.copy(0, 5, 0, 2, 7), 7);
    holds(c, 0, 1, 2, 3, 4, 5, 6, 7, 8, 11, 7, 8, 11);
  }

  private static void copyRefused() {
    says(55, "BAD: no such SHEETS;");
    range(0, 2, BAD, sheet -> rows().copy(sheet, 0, 0, 0, 0));
    range(0, 2, BAD, other -> rows().copy(0, 0, other, 0, 0));
    due(rows().copy(3, -1, 2, 0, 0), BAD);
    due(rows().copy(2, -1, 3, 0, 0), BAD);

    says(55, "-11: one is missing;");
    due(rows().copy(0, 0, 2, 0, 0), -11);
    due(rows().copy(2, 0, 0, 0, 0), -11);
    due(rows().copy(2, 0, 2, 0, 0), -11);
    due(rows().copy(2, -1, 0, 0, -1), -11);

    says(55, "-13: they are not of one sort;");
    for (int sort = 0; sort < 2; sort++) {
      RainCover c = rows();
      c.sheet(2, sort, 12);
      due(c.copy(0, 0, 2, 0, 1), -13);
      due(c.copy(2, 0, 0, 0, 0), -13);
      due(c.copy(2, -1, 0, 13, 99), -13);
      due(c.copy(2, 0, 2, 1, 1), 1);
    }
    RainCover both = rows();
    both.sheet(0, 0, 3);
    both.sheet(1, 1, 3);
    due(both.copy(0, 0, 1, 0, 1), -13);

    says(55, "-12: n, i or j is below 0, or beyond either's end.");
    RainCover c = rows();
    range(0, 12, -12, n -> c.copy(0, 0, 1, 0, n));
    range(0, 12, -12, n -> c.copy(1, 0, 0, 0, n));
    range(0, 11, -12, i -> c.copy(0, i, 1, 0, 1));
    range(0, 12, -12, i -> c.copy(0, i, 1, 0, 0));
    range(0, 13, -12, j -> c.copy(0, 0, 1, j, 1));
    range(0, 14, -12, j -> c.copy(0, 0, 1, j, 0));
    range(0, 2, -12, j -> c.copy(0, 0, 1, j, 12));
    range(0, 2, -12, i -> c.copy(1, i, 0, 0, 12));
    int[][] far = {{1, 1, HIGHEST}, {HIGHEST, HIGHEST, HIGHEST}, {LOWEST, LOWEST, LOWEST}, {LOWEST, 0, LOWEST},
      {HIGHEST, 0, 2}, {0, HIGHEST, 2}, {HIGHEST, 0, LOWEST}};
    for (int[] f : far) due(c.copy(0, f[0], 1, f[1], f[2]), -12);
    RainCover d = rows();
    d.copy(0, 1, 1, 0, 12);
    d.copy(0, 0, 1, 3, 12);
    d.copy(0, -1, 1, 0, 3);
    holds(d, 1, 101, 102, 103, 104, 105, 106, 107, 108, 109, 110, 111, 112);
  }
}
