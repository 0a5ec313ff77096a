/** Boundary cases of promises 23 to 26. */
final class EdgesOfFields extends Edges {
  static void run() {
    look();
    lookFull();
    basisParts();
    miss();
    band();
    basisRefused();
    site();
    far();
    best();
    bestOfSeveral();
    bestRefused();
  }

  /** One GAUGE, a TERM that pays 40 where it is dry and one that pays 0, a FARM. */
  private static RainCover ready() {
    RainCover c = new RainCover();
    c.gauge(0, 0, 0);
    Check.term(c, "pay 40 if week 0 < 10");
    Check.term(c, "pay 40 if week 0 > 9998");
    c.farm(0, 0, 0, 9);
    return c;
  }

  private static void look() {
    says(23, "It is LOOKED AT: how many FARMS and SEASONS are.", "the latest counts;");
    RainCover c = ready();
    c.farm(0, 0, 0, 1);
    due(c.look(0, 0, 0, 0), 1);
    due(c.look(0, 0, 9999, 9999), 1);
    due(c.look(0, 15, 9999, 0), 2);
    due(c.look(1, 0, 0, 9999), 3);
    due(c.look(1, 15, 0, 0), 4);
    due(c.look(0, 0, 1000, 1), 4);
    due(c.look(0, 15, 0, 0), 4);
    due(c.count(5), 4);
    due(c.basis(1, 0, 0), 999);
    due(c.basis(1, 0, 1), 4);

    says(23, "NONE; BAD;", "LOOKED AT: of a FARM, SEASON: LOSS (0 .. 9999, for one AREA) with a DOUBT (0 .. 9999);");
    range(0, 0, NONE, farm -> ready().look(farm, 0, 1, 1));
    range(0, 15, NONE, season -> ready().look(0, season, 1, 1));
    range(0, 9999, BAD, loss -> ready().look(0, 0, loss, 1));
    range(0, 9999, BAD, doubt -> ready().look(0, 0, 1, doubt));
    due(ready().look(1, 0, -1, 0), NONE);
    due(ready().look(0, 16, 0, 10000), NONE);
    due(new RainCover().look(0, 0, 0, 0), NONE);
    c.look(0, 0, 10000, 0);
    c.look(0, 0, 0, -1);
    due(c.basis(1, 0, 0), 999);
    RainCover d = ready();
    d.look(0, 0, 10000, 0);
    d.look(0, 16, 0, 0);
    due(d.count(5), 0);
  }

  private static void lookFull() {
    says(23, "FULL.", "80 FARMS and SEASONS at most.");
    RainCover c = ready();
    for (int f = 1; f < 6; f++) c.farm(0, 0, 0, 1);
    for (int i = 0; i < 80; i++) due(c.look(i % 5, i / 5, 3, 1), i + 1);
    due(c.look(5, 0, 1, 1), FULL);
    due(c.look(5, 0, -1, 1), BAD);
    due(c.look(6, 0, 1, 1), NONE);
    due(c.look(0, 16, 1, 1), NONE);
    due(c.count(5), 80);
    due(c.basis(1, 0, 0), 2);
    due(c.look(0, 0, 83, 1), 80);
    due(c.look(4, 15, 3, 1), 80);
    due(c.basis(1, 0, 0), 3);
    due(c.look(5, 0, 1, 1), FULL);
  }

  private static void basisParts() {
    says(24, "BASIS of a TERM and BAND", ": part 0 above, 1 below the line, without a common divisor, below above 0.",
        "BASIS of a TERM and BAND: the mean of MISS over all LOOKED AT there.");
    RainCover c = ready();
    int[][] looks = {{0, 0, 1}, {6, 3, 1}, {0, 2, 1}, {3, 9, 4}, {1, 2, 1}, {0, 5, 3}, {11, 3, 1}, {0, 21, 8}};
    for (int season = 0; season < looks.length; season++) {
      c.look(0, season, looks[season][0], 0);
      due(c.basis(1, 0, 0), looks[season][1]);
      due(c.basis(1, 0, 1), looks[season][2]);
    }
    RainCover d = ready();
    for (int season = 0; season < 16; season++) d.look(0, season, 9999, 0);
    due(d.basis(1, 0, 0), 9999);
    due(d.basis(1, 0, 1), 1);
    d.look(0, 15, 9998, 0);
    due(d.basis(1, 0, 0), 16 * 9999 - 1);
    due(d.basis(1, 0, 1), 16);
  }

  private static void miss() {
    says(24, "MISS by a TERM: how far its PAY (as known now) is from LOSS, less DOUBT, 0 at least.");
    int[][] misses = {{40, 0, 0}, {41, 0, 1}, {39, 0, 1}, {41, 1, 0}, {41, 2, 0}, {39, 1, 0}, {39, 2, 0}, {50, 9, 1},
      {50, 10, 0}, {30, 9, 1}, {30, 10, 0}, {0, 0, 40}, {9999, 0, 9959}, {9999, 9999, 0}, {0, 9999, 0}, {0, 39, 1}};
    RainCover c = ready();
    for (int[] miss : misses) {
      c.look(0, 0, miss[0], miss[1]);
      due(c.basis(0, 0, 0), miss[2]);
      due(c.basis(0, 0, 1), 1);
    }
    c.look(0, 0, 30, 0);
    c.rain(0, 0, 0, 9);
    due(c.basis(0, 0, 0), 10);
    c.rain(0, 0, 0, 10);
    due(c.basis(0, 0, 0), 30);
    due(c.basis(1, 0, 0), 30);
  }

  private static void band() {
    says(24, "BAND: DISTANCE of the FARM to its GAUGE then by 20, cut, 3 at most; without a GAUGE it is in none.");
    int[][] places = {{0, 0, 0}, {19, 0, 0}, {10, 9, 0}, {20, 0, 1}, {10, 10, 1}, {39, 0, 1}, {40, 0, 2}, {59, 0, 2},
      {60, 0, 3}, {79, 0, 3}, {80, 0, 3}, {99, 99, 3}};
    for (int[] place : places) {
      RainCover c = new RainCover();
      c.gauge(0, 0, 3);
      c.gauge(0, 0, 0);
      c.down(1, 2);
      Check.term(c, BELOW_100);
      c.farm(place[0], place[1], 0, 1);
      c.look(0, 2, 5, 0);
      for (int band = 0; band < 4; band++) due(c.basis(0, band, 0), NO);
      c.look(0, 3, 95, 0);
      for (int band = 0; band < 4; band++) due(c.basis(0, band, 0), band == place[2] ? 5 : NO);
      for (int band = 0; band < 4; band++) due(c.basis(0, band, 1), band == place[2] ? 1 : NO);
    }
    RainCover nearer = ready();
    nearer.farm(20, 0, 0, 1);
    nearer.look(1, 4, 45, 0);
    nearer.look(1, 5, 42, 0);
    due(nearer.basis(0, 1, 0), 7);
    nearer.gauge(21, 0, 5);
    due(nearer.basis(0, 0, 0), 2);
    due(nearer.basis(0, 1, 0), 5);
  }

  private static void basisRefused() {
    says(24, "NO: none such, nothing LOOKED AT there.", "(0 .. 3)",
        "The constants: `NO = Long.MIN_VALUE`: There is no such number.");
    due(NO, Long.MIN_VALUE);
    RainCover c = ready();
    for (int part = 0; part < 2; part++) due(c.basis(0, 0, part), NO);
    int[] x = {20, 40, 60};
    for (int f = 1; f < 4; f++) c.farm(x[f - 1], 0, 0, 1);
    for (int f = 0; f < 4; f++) c.look(f, 0, 1, 0);
    c.down(0, 5);
    c.look(0, 5, 1, 0);
    range(0, 1, NO, term -> c.basis(term, 0, 0));
    range(0, 3, NO, band -> c.basis(0, band, 0));
    range(0, 1, NO, part -> c.basis(0, 0, part));
    due(new RainCover().basis(0, 0, 0), NO);
  }

  private static void site() {
    says(25, "A SITE: its number.", "BAD;");
    due(new RainCover().site(99, 99), 0);
    range(0, 99, BAD, x -> new RainCover().site(x, 0));
    range(0, 99, BAD, y -> new RainCover().site(0, y));
    RainCover none = new RainCover();
    none.site(100, 0);
    none.site(0, -1);
    due(none.count(6), 0);

    says(25, "FULL.", "SITES 0 .. 7, as they come: PLACES.");
    RainCover c = new RainCover();
    c.farm(70, 70, 0, 1);
    for (int i = 0; i < 8; i++) {
      due(c.site(10 * i, 10 * i), i);
      due(c.best(1, 1), i);
    }
    due(c.site(0, 0), FULL);
    due(c.site(0, 100), BAD);
    due(c.count(6), 8);
    due(c.best(1, 0), 0);
    due(c.count(0), 0);
  }

  private static void far() {
    says(26, "FAR for a set of SITES: over all FARMS AREA times DISTANCE to the nearest of these and all GAUGES "
        + "STANDING in SEASON 15 (0 if there are none).");
    RainCover c = new RainCover();
    due(c.best(0, 0), 0);
    c.farm(0, 0, 0, 99);
    due(c.best(0, 0), 0);
    c.gauge(5, 5, 15);
    due(c.best(0, 0), 990);
    c.down(0, 15);
    due(c.best(0, 0), 0);
    c.site(99, 99);
    due(c.best(0, 0), 0);
    due(c.best(1, 0), 99 * 198);
    c.down(0, 16);
    due(c.best(1, 0), 990);
    c.site(5, 4);
    due(c.best(1, 0), 99 * 9);
    due(c.best(2, 0), 99 * 9);
    c.gauge(0, 0, 0);
    c.down(1, 15);
    due(c.best(0, 0), 990);
    c.down(1, 16);
    due(c.best(0, 0), 0);
    c.farm(99, 99, 0, 1);
    due(c.best(0, 0), 188);
    due(c.best(1, 0), 0);
    RainCover most = new RainCover();
    most.gauge(99, 99, 0);
    for (int f = 0; f < 24; f++) most.farm(0, 0, 0, 99);
    due(most.best(0, 0), 24 * 99 * 198);
  }

  private static void best() {
    says(26, "BEST n (0 .. 4): FAR (what 0), SITE i of the set (what i + 1; NONE: none such).");
    RainCover c = new RainCover();
    int[] place = {60, 0, 90, 30, 10};
    int[] area = {1, 16, 2, 8, 4};
    for (int i = 0; i < 5; i++) {
      c.farm(place[i], 0, 0, area[i]);
      c.site(place[i], 0);
    }
    c.gauge(99, 99, 0);
    int[][] due = {{0, 16 * 198 + 4 * 188 + 8 * 168 + 138 + 2 * 108, -1, -1, -1, -1},
      {0, 60 + 4 * 10 + 8 * 30 + 2 * 90, 1, -1, -1, -1}, {0, 40 + 30 + 120, 1, 3, -1, -1},
      {0, 40 + 30, 1, 2, 3, -1}, {0, 30, 1, 2, 3, 4}};
    for (int n = 0; n <= 4; n++) {
      for (int what = 0; what < 5; what++) due(c.best(n, what), due[n][what + 1]);
    }
  }

  private static void bestOfSeveral() {
    says(26, "BEST n: of all sets of n SITES that with the least FAR, of several that which has the lesser SITE "
        + "where they first differ (in rising order).");
    RainCover none = new RainCover();
    for (int i = 0; i < 8; i++) none.site(i, 0);
    for (int n = 1; n <= 4; n++) {
      for (int i = 0; i < 4; i++) due(none.best(n, i + 1), i < n ? i : NONE);
    }
    RainCover c = new RainCover();
    for (int i = 0; i < 8; i++) c.site(i >= 6 ? 0 : 90, 0);
    c.farm(0, 0, 0, 1);
    int[][] due = {{6}, {0, 6}, {0, 1, 6}, {0, 1, 2, 6}};
    for (int n = 1; n <= 4; n++) {
      for (int i = 0; i < n; i++) due(c.best(n, i + 1), due[n - 1][i]);
    }
    // On the sides of a square: 0, 3 serve its corners as well as 1, 2 do, all other twos serve them worse.
    RainCover square = new RainCover();
    int[][] sides = {{10, 0}, {0, 10}, {20, 10}, {10, 20}};
    for (int[] side : sides) square.site(side[0], side[1]);
    for (int i = 0; i < 4; i++) square.farm(i % 2 * 20, i / 2 * 20, 0, 1);
    due(square.best(2, 0), 40);
    due(square.best(2, 1), 0);
    due(square.best(2, 2), 3);
    RainCover d = new RainCover();
    int[] x = {0, 2, 52, 50};
    for (int i = 0; i < 4; i++) d.site(x[i], 0);
    d.farm(1, 0, 0, 1);
    d.farm(51, 0, 0, 1);
    due(d.best(2, 0), 2);
    due(d.best(2, 1), 0);
    due(d.best(2, 2), 2);
    d.farm(50, 0, 0, 1);
    due(d.best(2, 1), 0);
    due(d.best(2, 2), 3);
    d.farm(0, 0, 0, 1);
    d.farm(2, 0, 0, 2);
    due(d.best(2, 1), 1);
    due(d.best(2, 2), 3);
  }

  private static void bestRefused() {
    says(26, "-5: n above how many SITES there are, or not 0 .. 4; what is not 0 .. 4.");
    for (int sites = 0; sites <= 8; sites++) {
      RainCover c = new RainCover();
      for (int i = 0; i < sites; i++) c.site(i, i);
      range(0, Math.min(sites, 4), -5, n -> c.best(n, 0));
      range(0, Math.min(sites, 4), -5, n -> c.best(n, 4));
      range(0, 4, -5, what -> c.best(0, what));
    }
  }
}
