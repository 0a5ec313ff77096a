/** Boundary cases of promises 1 to 12. */
final class EdgesOfRain extends Edges {
  static void run() {
    newObject();
    gauge();
    gaugeFull();
    down();
    law();
    lawFirsts();
    rain();
    weeksOfSeasons();
    green();
    numberedInOneRow();
    asKnown();
    lay();
    laySorts();
    layItems();
    layFull();
    told();
    filled();
    filledByNear();
    filledByOtherSeasons();
    span();
    odd();
  }

  /** Two GAUGES, just NEAR at first. */
  private static RainCover ready() {
    RainCover c = new RainCover();
    c.gauge(0, 0, 0);
    c.gauge(40, 0, 0);
    return c;
  }

  private static void newObject() {
    says(1, "No GAUGES, TERMS, FARMS; the FUND is 0.");
    RainCover other = ready();
    Check.term(other, BELOW_100);
    other.farm(0, 0, 0, 1);
    other.fund(9);
    RainCover c = new RainCover();
    for (int what : new int[] {0, 2, 3, 9}) due(c.count(what), 0);
    due(c.down(0, 0), NONE);
    due(c.rain(0, 0, 0, 1), NONE);
    due(c.debt(0), NONE);
    due(c.enroll(0, 0, 0), NONE);
    due(c.basis(0, 0, 0), NO);
    due(c.fund(-1), BAD);
    due(c.gauge(0, 0, 0), 0);
    due(Check.term(c, BELOW_100), 0);
    due(c.farm(0, 0, 0, 1), 0);
    due(c.fund(1), 1);
    due(other.count(9), 9);
  }

  private static void gauge() {
    says(2, "A GAUGE STANDING from a SEASON on: its number.");
    RainCover c = new RainCover();
    c.farm(0, 0, 0, 1);
    due(c.gauge(0, 0, 15), 0);
    due(c.of(0, 14, 0), -1);
    due(c.of(0, 15, 0), 0);
    due(c.gauge(0, 0, 0), 1);
    due(c.of(0, 0, 0), 1);
    due(c.of(0, 14, 0), 1);
    due(c.of(0, 15, 0), 0);

    says(2, "BAD: x, y;", "A PLACE: x, y (0 .. 99 each);");
    range(0, 99, BAD, x -> new RainCover().gauge(x, 0, 0));
    range(0, 99, BAD, y -> new RainCover().gauge(0, y, 0));
    due(new RainCover().gauge(100, 0, 16), BAD);
    due(new RainCover().gauge(0, -1, -1), BAD);

    says(2, "NONE: season;");
    range(0, 15, NONE, season -> new RainCover().gauge(0, 0, season));
    RainCover none = new RainCover();
    none.gauge(0, 0, 16);
    none.gauge(100, 0, 0);
    due(none.count(0), 0);

    says(2, "DISTANCE of two: the sizes of both differences, added.");
    RainCover d = new RainCover();
    d.gauge(50, 50, 0);
    int[][] farms = {{50, 50, 0}, {60, 53, 13}, {40, 53, 13}, {60, 47, 13}, {40, 47, 13}, {99, 99, 98}, {0, 0, 100}};
    for (int f = 0; f < farms.length; f++) {
      d.farm(farms[f][0], farms[f][1], 0, 1);
      due(d.of(f, 0, 2), farms[f][2]);
    }
  }

  private static void gaugeFull() {
    says(2, "FULL.", "GAUGES 0 .. 7, as they come: a PLACE, STANDING from a SEASON on");
    RainCover c = new RainCover();
    for (int i = 0; i < 8; i++) due(c.gauge(99 - i, i, i), i);
    due(c.gauge(0, 0, 0), FULL);
    due(c.gauge(0, 100, 0), BAD);
    due(c.gauge(0, 0, 16), NONE);
    due(c.count(0), 8);
    due(c.down(7, 3), 1);
    due(c.down(8, 3), NONE);
    c.down(7, 0);
    due(c.gauge(0, 0, 0), FULL);
  }

  private static void down() {
    says(3, "A GAUGE is DOWN from a SEASON on (16: it stands again to the end): 1.",
        "(till ahead of another one, if it is told DOWN from that on)");
    RainCover c = new RainCover();
    c.gauge(0, 0, 4);
    c.farm(0, 0, 0, 1);
    int[] told = {16, 15, 5, 4, 0, 10, 1, 16};
    for (int season : told) {
      due(c.down(0, season), 1);
      for (int s : new int[] {0, 3, 4, 5, 9, 10, 14, 15}) due(c.of(0, s, 0), s >= 4 && s < season ? 0 : -1);
    }

    says(3, "NONE: no such GAUGE; season is not 0 .. 16.");
    range(0, 1, NONE, gauge -> ready().down(gauge, 3));
    range(0, 16, NONE, season -> ready().down(0, season));
    due(new RainCover().down(0, 3), NONE);
    c.down(0, 17);
    c.down(0, -1);
    due(c.of(0, 15, 0), 0);
  }

  private static void law() {
    says(4, "REACH (what 0), SLACK (1), LOAD (2), SUBSIDY (3) becomes v: what it was.");
    RainCover c = new RainCover();
    for (int what = 0; what < 4; what++) {
      c.law(what, 10 + what);
      due(c.law(what, 50), 10 + what);
      due(c.law(what, 50), 50);
    }

    says(4, "NONE; BAD.");
    range(0, 3, NONE, what -> new RainCover().law(what, 0));
    due(c.law(4, -1), NONE);
    due(c.law(-1, 10000), NONE);
    due(c.law(0, 199), BAD);
    due(c.law(0, 50), 50);
  }

  private static void lawFirsts() {
    String[] words = {"REACH (0 .. 198; 40 at first)", "SLACK (0 .. 9999; 500 at first)", "LOAD (0 .. 300; 20 at "
        + "first)",
      "SUBSIDY (0 .. 100; 0 at first)"};
    int[] most = {198, 9999, 300, 100};
    int[] first = {40, 500, 20, 0};
    for (int i = 0; i < 4; i++) {
      int what = i;
      says(4, words[what]);
      due(new RainCover().law(what, 1), first[what]);
      range(0, most[what], BAD, v -> new RainCover().law(what, v));
      RainCover c = new RainCover();
      c.law(what, most[what] + 1);
      c.law(what, -1);
      due(c.law(what, most[what]), first[what]);
      due(c.law(what, 0), most[what]);
      due(c.law(what, 0), 0);
    }
  }

  private static void rain() {
    says(5, "A TELLING (v: RAIN, or -1 a GAP): its number.",
        "A TELLING is of a GAUGE, SEASON, WEEK: RAIN (0 .. 9999), or a GAP (-1).");
    RainCover c = ready();
    int[] told = {0, 9999, -1, 1, 9998};
    for (int i = 0; i < told.length; i++) {
      due(c.rain(1, 15, 11, told[i]), i + 1);
      due(c.told(1, 15, 11, i + 1), told[i]);
    }

    says(5, "NONE: no such GAUGE, SEASON, WEEK; BAD; FULL.");
    range(0, 1, NONE, gauge -> ready().rain(gauge, 0, 0, 5));
    range(0, 15, NONE, season -> ready().rain(0, season, 0, 5));
    range(0, 11, NONE, week -> ready().rain(0, 0, week, 5));
    range(-1, 9999, BAD, v -> ready().rain(0, 0, 0, v));
    due(ready().rain(2, 0, 0, -2), NONE);
    due(ready().rain(0, 16, 0, -2), NONE);
    due(ready().rain(0, 0, 12, 10000), NONE);
    due(new RainCover().rain(0, 0, 0, 5), NONE);
    c.rain(1, 15, 11, 10000);
    c.rain(1, 15, 12, 0);
    due(c.count(1), 5);
    due(c.told(1, 15, 11, 9), 9998);
    RainCover full = full();
    due(full.rain(0, 0, 0, 5), FULL);
    due(full.rain(0, 0, 0, -2), BAD);
    due(full.rain(2, 0, 0, 5), NONE);
    due(full.count(1), 700);
    due(full.told(0, 0, 0, 700), 0);
  }

  private static void weeksOfSeasons() {
    says(5, "15, WEEKS 0 .. 11 of each.");
    RainCover c = ready();
    for (int i = 0; i < 192; i++) c.rain(1, i / 12, i % 12, i);
    for (int i = 0; i < 192; i++) due(c.told(1, i / 12, i % 12, 192), i);
    due(c.told(0, 15, 11, 192), -1);
  }

  private static void green() {
    says(6, "A TELLING of GREEN: its number.",
        "Another TELLING is of a DISTRICT (0 .. 3), SEASON, WEEK: GREEN from above (0 .. 100), or a GAP (-1: clouds).");
    RainCover c = new RainCover();
    int[] told = {0, 100, -1, 1, 99};
    for (int i = 0; i < told.length; i++) {
      due(c.green(3, 15, 11, told[i]), i + 1);
      due(c.seen(3, 15, 11, i + 1), told[i]);
    }

    says(6, "NONE: no such DISTRICT, SEASON, WEEK; BAD; FULL.");
    range(0, 3, NONE, district -> new RainCover().green(district, 0, 0, 5));
    range(0, 15, NONE, season -> new RainCover().green(0, season, 0, 5));
    range(0, 11, NONE, week -> new RainCover().green(0, 0, week, 5));
    range(-1, 100, BAD, v -> new RainCover().green(0, 0, 0, v));
    due(c.green(4, 0, 0, -2), NONE);
    due(c.green(0, 16, 0, 101), NONE);
    due(c.green(0, 0, 12, 101), NONE);
    due(c.green(3, 15, 11, 101), BAD);
    due(c.count(1), 5);
    due(c.seen(3, 15, 11, 9), 99);
    RainCover full = full();
    due(full.green(0, 0, 0, 5), FULL);
    due(full.green(0, 0, 0, 101), BAD);
    due(full.green(4, 0, 0, 5), NONE);
    due(full.count(1), 700);
  }

  /** Has all 700 TELLINGS, all RAIN of 0. */
  private static RainCover full() {
    RainCover c = nearlyFull(4);
    c.sheet(0, 2, 12);
    c.lay(0, 0, 0, 2, 0);
    return c;
  }

  /** Has 684 TELLINGS and some more, and SHEETS 1, 2 of 12 ints. */
  private static RainCover nearlyFull(int more) {
    RainCover c = ready();
    c.sheet(1, 2, 12);
    c.sheet(2, 2, 12);
    for (int i = 0; i < 57; i++) c.lay(0, i % 16, 1, 2, 0);
    for (int i = 0; i < more; i++) c.rain(0, 0, 0, 0);
    return c;
  }

  private static void numberedInOneRow() {
    says(6, "TELLINGS of both sorts are numbered 1, 2, .. 700 in one row.");
    RainCover c = ready();
    due(c.rain(0, 0, 0, 1), 1);
    due(c.green(0, 0, 0, 2), 2);
    due(c.rain(1, 0, 0, -1), 3);
    due(c.green(1, 0, 0, -1), 4);
    due(c.count(1), 4);
    RainCover d = nearlyFull(14);
    due(d.rain(0, 0, 0, 1), 699);
    due(d.green(0, 0, 0, 1), 700);
    due(d.green(0, 0, 0, 1), FULL);
    due(d.rain(0, 0, 0, 1), FULL);
    due(d.seen(0, 0, 0, 699), -1);
    due(d.seen(0, 0, 0, 700), 1);
    RainCover e = nearlyFull(14);
    due(e.green(0, 0, 0, 1), 699);
    due(e.rain(0, 0, 0, 1), 700);
    due(e.rain(0, 0, 0, 1), FULL);
  }

  private static void asKnown() {
    says(7, "GREEN as known at k (-1: a GAP).",
        "AS KNOWN at k (0 and more): of these up to number k the latest one of a GAUGE (a DISTRICT), SEASON, WEEK; "
        + "without one: a GAP.");
    RainCover c = ready();
    c.green(1, 2, 3, 0);
    c.green(0, 2, 3, 50);
    c.green(1, 1, 3, 51);
    c.green(1, 2, 4, 52);
    c.rain(1, 2, 3, 53);
    c.green(1, 2, 3, -1);
    c.green(1, 2, 3, 100);
    int[] known = {-1, 0, 0, 0, 0, 0, -1, 100, 100};
    for (int k = 0; k < known.length; k++) due(c.seen(1, 2, 3, k), known[k]);
    due(c.seen(1, 2, 3, HIGHEST), 100);
    due(c.seen(1, 2, 5, HIGHEST), -1);
    due(c.seen(2, 2, 3, HIGHEST), -1);

    says(7, "-5: no such DISTRICT, SEASON, WEEK, k.");
    range(0, 3, -5, district -> c.seen(district, 2, 3, 9));
    range(0, 15, -5, season -> c.seen(1, season, 3, 9));
    range(0, 11, -5, week -> c.seen(1, 2, week, 9));
    from(0, -5, k -> c.seen(1, 2, 3, k));
  }

  /** SHEETS of 12 bytes, 12 shorts, 40 ints. */
  private static RainCover sheets() {
    RainCover c = ready();
    c.sheet(0, 0, 12);
    c.sheet(1, 1, 12);
    c.sheet(2, 2, 40);
    return c;
  }

  private static void lay() {
    says(8, "NONE: no such GAUGE, SEASON;");
    range(0, 1, NONE, gauge -> sheets().lay(gauge, 0, 0, 0, 0));
    range(0, 15, NONE, season -> sheets().lay(0, season, 0, 0, 0));
    due(sheets().lay(2, 0, 3, 3, -1), NONE);
    due(sheets().lay(0, 16, 3, 3, -1), NONE);
    due(new RainCover().lay(0, 0, 0, 0, 0), NONE);

    says(8, "BAD: no such SHEET, sort;");
    range(0, 2, BAD, sheet -> sheets().lay(0, 0, sheet, 0, 0));
    range(0, 2, BAD, sort -> sheets().lay(0, 0, 0, sort, 0));
    due(ready().lay(0, 0, 0, -1, 0), BAD);
    due(ready().lay(0, 0, 0, 3, 0), BAD);
    due(sheets().lay(0, 0, 0, 3, 99), BAD);

    says(8, "-11: it is missing;");
    due(ready().lay(0, 0, 0, 0, 0), -11);
    due(ready().lay(0, 0, 2, 2, 99), -11);
    RainCover c = sheets();
    c.sheet(2, -1, 40);
    due(c.lay(0, 0, 2, 2, 0), -11);
    due(c.lay(0, 0, 2, 2, -1), -11);
    due(c.count(1), 0);

    says(8, "-12: it has not so many items;");
    range(0, 0, -12, i -> sheets().lay(0, 0, 0, 0, i));
    range(0, 28, -12, i -> sheets().lay(0, 0, 2, 2, i));
    for (int n : new int[] {0, 1, 11}) {
      RainCover few = ready();
      few.sheet(0, 1, n);
      due(few.lay(0, 0, 0, 1, 0), -12);
      due(few.count(1), 0);
    }
  }

  private static void laySorts() {
    says(8, "-13: it is of another sort;");
    for (int sheet = 0; sheet < 3; sheet++) {
      for (int sort = 0; sort < 3; sort++) {
        RainCover c = sheets();
        due(c.lay(0, 0, sheet, sort, 0), sheet == sort ? 12 : -13);
        due(c.lay(0, 0, sheet, sort, 29), sheet == sort ? -12 : -13);
        due(c.count(1), sheet == sort ? 12 : 0);
      }
    }
  }

  private static void layItems() {
    says(8, "12 items of a SHEET taken for one of a sort, from item i on, become 12 TELLINGS of a GAUGE and SEASON, "
        + "WEEK by WEEK (what is not 0 .. 9999: a GAP): the number of the last one.");
    RainCover c = sheets();
    int[] items = {7, LOWEST, -1, 0, 1, 9998, 9999, 10000, HIGHEST, 5, 6, 7, 8, 77};
    for (int i = 0; i < items.length; i++) c.cell(2, i, items[i]);
    c.rain(1, 15, 0, 44);
    due(c.lay(1, 15, 2, 2, 1), 13);
    int[] rain = {-1, -1, 0, 1, 9998, 9999, -1, -1, 5, 6, 7, 8};
    for (int week = 0; week < 12; week++) {
      due(c.told(1, 15, week, 2 + week), rain[week]);
      due(c.told(1, 15, week, 1 + week), week == 0 ? 44 : -1);
      due(c.told(0, 15, week, 99), -1);
      due(c.told(1, 14, week, 99), -1);
    }
    due(c.lay(1, 15, 2, 2, 28), 25);
    due(c.told(1, 15, 0, 25), 0);
    int[] cut = {127, 128, 255, 256, -1};
    int[] asByte = {127, -1, -1, 0, -1};
    int[] asShort = {127, 128, 255, 256, -1};
    for (int i = 0; i < cut.length; i++) {
      c.cell(0, i, cut[i]);
      c.cell(1, i, cut[i]);
    }
    due(c.lay(0, 0, 0, 0, 0), 37);
    due(c.lay(0, 1, 1, 1, 0), 49);
    for (int i = 0; i < cut.length; i++) {
      due(c.told(0, 0, i, 49), asByte[i]);
      due(c.told(0, 1, i, 49), asShort[i]);
    }
  }

  private static void layFull() {
    says(8, "FULL: not all 12 have room.");
    RainCover c = nearlyFull(4);
    due(c.lay(1, 0, 2, 2, 0), 700);
    due(c.told(1, 0, 11, 699), -1);
    due(c.told(1, 0, 11, 700), 0);
    due(c.lay(1, 1, 2, 2, 0), FULL);
    due(c.lay(1, 1, 2, 2, 1), -12);
    due(c.lay(1, 1, 0, 2, 0), -11);
    due(c.lay(1, 1, 2, 1, 0), -13);
    due(c.lay(1, 1, 3, 1, 0), BAD);
    due(c.lay(2, 1, 2, 2, 0), NONE);
    RainCover d = nearlyFull(5);
    due(d.lay(1, 0, 2, 2, 0), FULL);
    due(d.count(1), 689);
    for (int week = 0; week < 12; week++) due(d.told(1, 0, week, 700), -1);
    due(d.rain(1, 0, 0, 3), 690);
  }

  private static void told() {
    says(9, "RAIN as known at k (-1: a GAP).");
    RainCover c = ready();
    c.rain(1, 2, 3, 0);
    c.rain(0, 2, 3, 50);
    c.rain(1, 1, 3, 51);
    c.rain(1, 2, 4, 52);
    c.green(1, 2, 3, 53);
    c.rain(1, 2, 3, -1);
    c.rain(1, 2, 3, 9999);
    int[] known = {-1, 0, 0, 0, 0, 0, -1, 9999, 9999};
    for (int k = 0; k < known.length; k++) due(c.told(1, 2, 3, k), known[k]);
    due(c.told(1, 2, 3, HIGHEST), 9999);
    due(c.told(1, 2, 5, HIGHEST), -1);

    says(9, "-5: no such GAUGE, SEASON, WEEK, k.");
    range(0, 1, -5, gauge -> c.told(gauge, 2, 3, 9));
    range(0, 15, -5, season -> c.told(1, season, 3, 9));
    range(0, 11, -5, week -> c.told(1, 2, week, 9));
    from(0, -5, k -> c.told(1, 2, 3, k));
    due(new RainCover().told(0, 0, 0, 0), -5);

    says(10, "-5: as told().");
    range(0, 1, -5, gauge -> c.filled(gauge, 2, 3, 9));
    range(0, 15, -5, season -> c.filled(1, season, 3, 9));
    range(0, 11, -5, week -> c.filled(1, 2, week, 9));
    from(0, -5, k -> c.filled(1, 2, 3, k));
    due(new RainCover().filled(0, 0, 0, 0), -5);
  }

  private static void filled() {
    says(10, "What is FILLED, as known at k.", "FILLED (as known at k): RAIN;");
    RainCover c = ready();
    c.rain(1, 0, 0, 70);
    c.rain(0, 0, 0, 0);
    c.rain(0, 0, 0, 9999);
    c.rain(0, 0, 0, -1);
    c.rain(1, 0, 0, -1);
    c.rain(0, 1, 0, 30);
    int[] due = {0, 70, 0, 9999, 70, 0, 30, 30};
    for (int k = 0; k < due.length; k++) due(c.filled(0, 0, 0, k), due[k]);
    due(c.filled(0, 0, 0, HIGHEST), 30);

    says(10, "without one 0.");
    due(ready().filled(0, 0, 0, 0), 0);
    due(c.filled(0, 0, 1, 99), 0);
    due(c.filled(1, 15, 11, 99), 0);
    due(c.filled(1, 0, 0, 6), 0);
  }

  private static void filledByNear() {
    says(10, "of a GAP that of the same WEEK of the nearest NEAR GAUGE that has no GAP there, of several the least "
        + "number;");
    RainCover c = new RainCover();
    int[][] places = {{50, 50}, {60, 60}, {45, 45}, {50, 60}, {40, 50}, {50, 50}};
    for (int[] place : places) c.gauge(place[0], place[1], 0);
    int[] order = {1, 4, 3, 2, 5};
    int[] filled = {100, 400, 300, 200, 500};
    for (int i = 0; i < order.length; i++) {
      c.rain(order[i], 7, 7, 100 * order[i]);
      due(c.filled(0, 7, 7, 99), filled[i]);
    }
    for (int k = 1; k <= 5; k++) due(c.filled(0, 7, 7, k), filled[k - 1]);
    c.rain(5, 7, 7, -1);
    due(c.filled(0, 7, 7, 99), 200);
    c.rain(2, 7, 7, -1);
    due(c.filled(0, 7, 7, 99), 300);
    c.rain(3, 7, 7, -1);
    due(c.filled(0, 7, 7, 99), 400);
    c.rain(3, 7, 7, 0);
    due(c.filled(0, 7, 7, 99), 0);
    due(c.filled(0, 7, 6, 99), 0);
    due(c.filled(0, 6, 7, 99), 0);
    c.rain(0, 7, 7, 5);
    due(c.filled(0, 7, 7, 99), 5);

    says(10, "Two GAUGES are NEAR if their DISTANCE is REACH", "at most (whether STANDING or not).");
    RainCover d = new RainCover();
    d.gauge(0, 0, 0);
    d.gauge(20, 20, 15);
    d.gauge(99, 99, 0);
    d.gauge(0, 0, 0);
    d.down(1, 0);
    d.rain(1, 3, 4, 60);
    due(d.filled(0, 3, 4, 9), 60);
    d.law(0, 39);
    due(d.filled(0, 3, 4, 9), 0);
    d.law(0, 40);
    due(d.filled(0, 3, 4, 9), 60);
    d.rain(2, 3, 5, 80);
    d.law(0, 197);
    due(d.filled(0, 3, 5, 9), 0);
    d.law(0, 198);
    due(d.filled(0, 3, 5, 9), 80);
    due(d.filled(3, 3, 5, 9), 80);
    d.law(0, 0);
    due(d.filled(0, 3, 5, 9), 0);
    d.rain(3, 3, 5, 90);
    due(d.filled(0, 3, 5, 9), 90);

    // Each of two is NEAR the other, and neither its x nor its y alone decides.
    RainCover e = new RainCover();
    e.gauge(90, 10, 0);
    e.gauge(70, 30, 0);
    e.rain(0, 0, 0, 7);
    e.rain(1, 0, 1, 8);
    for (int reach = 39; reach <= 40; reach++) {
      e.law(0, reach);
      boolean near = reach == 40;
      due(e.filled(1, 0, 0, 9), near ? 7 : 0);
      due(e.filled(0, 0, 1, 9), near ? 8 : 0);
      due(e.span(1, 0, 0, 0), near ? 7 : NONE);
      due(e.span(0, 0, 1, 1), near ? 8 : NONE);
    }

    // With all 8 there is none behind the last one, though GREEN is told.
    RainCover all = new RainCover();
    for (int g = 0; g < 8; g++) all.gauge(0, g, 0);
    for (int district = 0; district < 4; district++) all.green(district, 0, 0, 55);
    for (int g = 0; g < 8; g++) {
      due(all.filled(g, 0, 0, 9), 0);
      due(all.span(g, 0, 0, 0), NONE);
    }
    all.rain(7, 0, 0, 3);
    for (int g = 0; g < 8; g++) due(all.filled(g, 0, 0, 9), 3);
  }

  private static void filledByOtherSeasons() {
    says(10, "without one the mean (cut) of its own RAIN in that WEEK of all other SEASONS that have no GAP there;");
    RainCover c = ready();
    c.rain(0, 0, 5, 7);
    due(c.filled(0, 15, 5, 9), 7);
    c.rain(0, 14, 5, 8);
    due(c.filled(0, 15, 5, 9), 7);
    c.rain(0, 13, 5, 8);
    due(c.filled(0, 15, 5, 9), 7);
    c.rain(0, 12, 5, 9);
    due(c.filled(0, 15, 5, 9), 8);
    c.rain(0, 12, 5, -1);
    due(c.filled(0, 15, 5, 9), 7);
    c.rain(0, 13, 5, 0);
    due(c.filled(0, 15, 5, 9), 5);
    due(c.filled(0, 15, 5, 2), 7);
    due(c.filled(0, 15, 5, 0), 0);
    c.rain(0, 13, 4, 900);
    c.rain(1, 13, 5, 900);
    c.rain(1, 0, 5, 900);
    due(c.filled(0, 15, 5, 99), 5);
    due(c.filled(0, 13, 5, 99), 0);
    due(c.filled(0, 12, 5, 99), 5);
    RainCover d = ready();
    for (int season = 0; season < 16; season++) d.rain(0, season, 0, 9999);
    d.rain(0, 9, 0, -1);
    due(d.filled(0, 9, 0, 99), 9999);
    d.rain(1, 9, 0, 3);
    due(d.filled(0, 9, 0, 99), 3);
    RainCover last = new RainCover();
    for (int g = 0; g < 8; g++) last.gauge(99, 99, 0);
    last.rain(7, 15, 5, 10);
    for (int district = 0; district < 4; district++) last.green(district, 0, 5, 100);
    due(last.filled(7, 3, 5, 99), 10);
  }

  private static void span() {
    says(11, "LEAST (what 0), GREATEST (1) of a WEEK, as known now.",
        "LEAST, GREATEST of a WEEK: of the RAIN of all NEAR GAUGES (not itself) that have no GAP there.");
    RainCover c = new RainCover();
    c.gauge(0, 0, 0);
    c.gauge(20, 20, 15);
    c.gauge(0, 40, 0);
    c.gauge(0, 41, 0);
    c.down(1, 0);
    c.rain(0, 0, 0, 9999);
    c.rain(3, 0, 0, 9999);
    c.rain(1, 0, 0, 60);
    for (int what = 0; what < 2; what++) due(c.span(0, 0, 0, what), 60);
    c.rain(2, 0, 0, 0);
    due(c.span(0, 0, 0, 0), 0);
    due(c.span(0, 0, 0, 1), 60);
    c.rain(2, 0, 0, 61);
    due(c.span(0, 0, 0, 0), 60);
    due(c.span(0, 0, 0, 1), 61);
    c.rain(1, 0, 0, -1);
    for (int what = 0; what < 2; what++) due(c.span(0, 0, 0, what), 61);
    c.law(0, 41);
    due(c.span(0, 0, 0, 0), 61);
    due(c.span(0, 0, 0, 1), 9999);

    says(11, "NONE: there is none.");
    c.law(0, 39);
    c.rain(0, 0, 0, 5);
    for (int what = 0; what < 2; what++) {
      due(c.span(0, 0, 0, what), NONE);
      due(c.span(0, 0, 1, what), NONE);
      due(c.span(0, 1, 0, what), NONE);
    }
    due(ready().span(0, 0, 0, 0), NONE);

    says(11, "-5: no such GAUGE, SEASON, WEEK, what.");
    range(0, 3, -5, gauge -> c.span(gauge, 0, 0, 0));
    range(0, 15, -5, season -> c.span(0, season, 0, 0));
    range(0, 11, -5, week -> c.span(0, 0, week, 0));
    range(0, 1, -5, what -> c.span(0, 0, 0, what));
    due(new RainCover().span(0, 0, 0, 0), -5);
  }

  private static void odd() {
    says(12, "How many WEEKS of a SEASON have ODD RAIN, as known now.",
        "ODD is its RAIN, if there is such a one and it is more than SLACK", "below the LEAST, or above the GREATEST.");
    RainCover c = ready();
    c.gauge(0, 40, 0);
    c.rain(0, 0, 0, 9999);
    due(c.odd(0, 0), 0);
    c.rain(1, 0, 0, 1000);
    c.rain(2, 0, 0, 2000);
    int[][] odds = {{499, 1}, {500, 0}, {1000, 0}, {1500, 0}, {2000, 0}, {2500, 0}, {2501, 1}, {0, 1}, {9999, 1},
      {-1, 0}};
    for (int[] odd : odds) {
      c.rain(0, 0, 0, odd[0]);
      due(c.odd(0, 0), odd[1]);
    }
    c.law(1, 0);
    int[][] tight = {{999, 1}, {1000, 0}, {2000, 0}, {2001, 1}};
    for (int[] odd : tight) {
      c.rain(0, 0, 0, odd[0]);
      due(c.odd(0, 0), odd[1]);
    }
    due(c.odd(0, 1), 0);
    for (int week = 0; week < 12; week++) {
      c.rain(0, 15, week, 9999);
      c.rain(1, 15, week, 0);
      due(c.odd(0, 15), week + 1);
    }
    c.law(1, 9998);
    due(c.odd(0, 15), 12);
    due(c.odd(1, 15), 12);
    c.law(1, 9999);
    due(c.odd(0, 15), 0);

    says(12, "NONE: no such GAUGE, SEASON.");
    range(0, 1, NONE, gauge -> ready().odd(gauge, 0));
    range(0, 15, NONE, season -> ready().odd(0, season));
    due(new RainCover().odd(0, 0), NONE);
  }
}
