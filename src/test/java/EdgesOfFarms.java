/** Boundary cases of promises 16 to 22. */
final class EdgesOfFarms extends Edges {
  static void run() {
    farm();
    farmFull();
    districts();
    plant();
    enroll();
    enrollRefused();
    enrollFull();
    lapse();
    gaugeOfAFarm();
    ofAFarm();
    ofRefused();
    due();
    duePlantAndCrop();
    line();
    lineOfTwos();
    lineRefused();
  }

  /** One GAUGE, two TERMS that pay 100 and 7 where no rain is told, two FARMS of AREA 2 and 3. */
  private static RainCover ready() {
    RainCover c = new RainCover();
    c.gauge(0, 0, 0);
    Check.term(c, BELOW_100);
    Check.term(c, "pay 7 if week 0 < 100");
    c.farm(0, 0, 0, 2);
    c.farm(30, 0, 0, 3);
    return c;
  }

  private static void farm() {
    says(16, "A FARM: its number.", "BAD: x, y, crop, area;");
    due(new RainCover().farm(0, 0, 0, 1), 0);
    due(ready().farm(99, 99, 3, 99), 2);
    range(0, 99, BAD, x -> new RainCover().farm(x, 0, 0, 1));
    range(0, 99, BAD, y -> new RainCover().farm(0, y, 0, 1));
    range(0, 3, BAD, crop -> new RainCover().farm(0, 0, crop, 1));
    range(1, 99, BAD, area -> new RainCover().farm(0, 0, 0, area));
    RainCover c = new RainCover();
    c.farm(100, 0, 0, 1);
    c.farm(0, 0, 4, 1);
    c.farm(0, 0, 0, 0);
    due(c.count(3), 0);
  }

  private static void farmFull() {
    says(16, "FULL.", "FARMS 0 .. 23, as they come: a PLACE, a CROP, an AREA (1 .. 99).");
    RainCover c = ready();
    for (int f = 2; f < 24; f++) due(c.farm(4 * f, f, f % 4, 4 * f), f);
    due(c.farm(0, 0, 0, 1), FULL);
    due(c.farm(0, 0, 0, 100), BAD);
    due(c.farm(0, 100, 0, 1), BAD);
    due(c.count(3), 24);
    for (int f = 2; f < 24; f++) {
      due(c.of(f, 0, 2), 5 * f);
      due(c.taken(f, 0), f % 4);
      c.enroll(f, 1, 0);
      due(c.due(f, 0, 0), 4 * f * 7);
    }
    due(c.of(24, 0, 2), -5);
  }

  private static void districts() {
    says(16, "DISTRICT of a PLACE: x by 25, cut.");
    RainCover c = new RainCover();
    int[][] farms = {{0, 0}, {24, 0}, {25, 1}, {49, 1}, {50, 2}, {74, 2}, {75, 3}, {99, 3}};
    for (int f = 0; f < farms.length; f++) {
      c.farm(farms[f][0], 99 - farms[f][0], 0, 1);
      due(c.of(f, 0, 4), farms[f][1]);
      RainCover d = new RainCover();
      d.gauge(farms[f][0], 99 - farms[f][0], 0);
      Check.term(d, "pay 1 if green 0 to 0 > 0");
      for (int district = 0; district < 4; district++) d.green(district, district, 0, 1);
      for (int season = 0; season < 4; season++) due(d.pay(0, 0, season, 0, 0), season == farms[f][1] ? 1 : 0);
    }
  }

  private static void plant() {
    says(17, "PLANT of a DISTRICT: what it was.", "PLANT of a DISTRICT (0 .. 5; 0 at first).");
    RainCover c = new RainCover();
    for (int district = 0; district < 4; district++) {
      due(c.plant(district, 5), 0);
      due(c.plant(district, 5 - district), 5);
    }
    for (int district = 0; district < 4; district++) due(c.plant(district, 0), 5 - district);
    for (int district = 0; district < 4; district++) due(c.plant(district, 0), 0);

    says(17, "NONE; BAD.");
    range(0, 3, NONE, district -> new RainCover().plant(district, 0));
    range(0, 5, BAD, p -> new RainCover().plant(0, p));
    due(c.plant(4, 6), NONE);
    due(c.plant(-1, -1), NONE);
    due(c.plant(3, 6), BAD);
    due(c.plant(3, 1), 0);
  }

  /** The TERM by which a FARM is COVERED in each SEASON: one sign of each, a dot for none. */
  private static void covered(RainCover c, int farm, String terms) {
    for (int season = 0; season < 16; season++) {
      due(c.of(farm, season, 1), terms.charAt(season) == '.' ? -1 : terms.charAt(season) - '0');
    }
  }

  private static void enroll() {
    says(18, "A FARM is COVERED by a TERM from a SEASON on: 1.",
        "A FARM is COVERED by a TERM from a SEASON on, till ahead of the one from which it LAPSES;");
    RainCover c = ready();
    due(c.enroll(0, 0, 0), 1);
    due(c.enroll(1, 1, 15), 1);
    covered(c, 0, "0000000000000000");
    covered(c, 1, "...............1");
    c.lapse(0, 15);
    covered(c, 0, "000000000000000.");
    due(c.enroll(0, 1, 15), 1);
    covered(c, 0, "0000000000000001");

    RainCover d = ready();
    d.enroll(0, 0, 3);
    d.lapse(0, 6);
    due(d.enroll(0, 1, 8), 1);
    covered(d, 0, "...000..11111111");
    covered(d, 1, "................");
    d.lapse(0, 8);
    due(d.enroll(0, 1, 6), 1);
    covered(d, 0, "...0001111111111");
  }

  private static void enrollRefused() {
    says(18, "NONE;");
    range(0, 1, NONE, farm -> ready().enroll(farm, 0, 0));
    range(0, 1, NONE, term -> ready().enroll(0, term, 0));
    range(0, 15, NONE, season -> ready().enroll(0, 0, season));
    due(new RainCover().enroll(0, 0, 0), NONE);

    says(18, "STATE: it is COVERED in that or a later one;");
    RainCover c = ready();
    c.enroll(0, 0, 7);
    for (int season = 0; season < 16; season++) due(c.enroll(0, 1, season), STATE);
    due(c.enroll(0, 2, 7), NONE);
    due(c.enroll(0, 0, 16), NONE);
    c.lapse(0, 8);
    for (int season = 0; season < 8; season++) due(c.enroll(0, 1, season), STATE);
    due(c.count(4), 1);
    covered(c, 0, ".......0........");
    due(c.enroll(0, 1, 8), 1);
    due(c.enroll(1, 1, 0), 1);
    RainCover last = ready();
    last.enroll(0, 0, 15);
    due(last.enroll(0, 0, 15), STATE);
    due(last.enroll(0, 0, 0), STATE);
    last.lapse(0, 15);
    due(last.enroll(0, 1, 0), 1);
    covered(last, 0, "1111111111111111");
  }

  private static void enrollFull() {
    says(18, "FULL.", "60 COVERS at most in all.");
    RainCover c = ready();
    for (int f = 2; f < 5; f++) c.farm(0, 0, 0, 1);
    for (int i = 0; i < 60; i++) {
      due(c.enroll(i / 15, 0, i % 15), 1);
      c.lapse(i / 15, i % 15 + 1);
    }
    due(c.enroll(4, 0, 0), FULL);
    due(c.enroll(0, 0, 15), FULL);
    due(c.enroll(0, 0, 14), STATE);
    due(c.enroll(5, 0, 0), NONE);
    due(c.enroll(4, 2, 0), NONE);
    due(c.count(4), 60);
    due(c.lapse(0, 0), 1);
    due(c.enroll(4, 0, 0), FULL);
    covered(c, 4, "................");
  }

  private static void lapse() {
    says(19, "It LAPSES from a SEASON on: how many SEASONS (to 15) it is COVERED less.");
    for (int from = 0; from < 16; from++) {
      RainCover c = ready();
      c.enroll(0, 0, from);
      due(c.lapse(0, 15), 1);
      if (from < 15) due(c.lapse(0, from), 15 - from);
      covered(c, 0, "................");
      c.enroll(0, 1, from);
      due(c.lapse(0, from), 16 - from);
      covered(c, 0, "................");
    }
    RainCover d = ready();
    d.enroll(0, 0, 2);
    due(d.lapse(0, 9), 7);
    due(d.lapse(0, 8), 1);
    due(d.lapse(0, 3), 5);
    covered(d, 0, "..0.............");

    says(19, "NONE;");
    range(0, 1, NONE, farm -> ready().lapse(farm, 0));
    range(0, 15, NONE, season -> ready().lapse(0, season));
    due(new RainCover().lapse(0, 0), NONE);

    says(19, "STATE: it is not COVERED in that one.");
    RainCover e = ready();
    due(e.lapse(0, 0), STATE);
    e.enroll(0, 0, 5);
    due(e.lapse(0, 4), STATE);
    due(e.lapse(1, 5), STATE);
    e.lapse(0, 8);
    due(e.lapse(0, 8), STATE);
    due(e.lapse(0, 15), STATE);
    covered(e, 0, ".....000........");
  }

  private static void gaugeOfAFarm() {
    says(20, "0 its GAUGE (-1: none)",
        "GAUGE of a FARM in a SEASON: of those STANDING in it the nearest, of several the least number (or none).");
    RainCover c = new RainCover();
    c.farm(50, 50, 0, 1);
    due(c.of(0, 0, 0), -1);
    c.gauge(99, 99, 0);
    due(c.of(0, 0, 0), 0);
    c.gauge(60, 50, 0);
    c.gauge(50, 40, 0);
    c.gauge(45, 55, 0);
    due(c.of(0, 0, 0), 1);
    c.gauge(51, 58, 3);
    due(c.of(0, 2, 0), 1);
    due(c.of(0, 3, 0), 4);
    c.gauge(50, 50, 15);
    due(c.of(0, 14, 0), 4);
    due(c.of(0, 15, 0), 5);
    c.down(1, 8);
    c.down(4, 7);
    due(c.of(0, 6, 0), 4);
    due(c.of(0, 7, 0), 1);
    due(c.of(0, 8, 0), 2);
    c.down(2, 8);
    due(c.of(0, 8, 0), 3);
    c.down(3, 8);
    due(c.of(0, 8, 0), 0);
    c.down(0, 8);
    due(c.of(0, 8, 0), -1);
    due(c.of(0, 7, 0), 1);

    RainCover far = new RainCover();
    far.gauge(99, 99, 0);
    far.farm(0, 0, 0, 1);
    due(far.of(0, 0, 0), 0);
    due(far.of(0, 0, 2), 198);
  }

  private static void ofAFarm() {
    says(20, "Of a FARM in a SEASON:", "1 the TERM by which it is COVERED (-1)", "2 DISTANCE to its GAUGE (-1)",
        "3 PAY by its TERM as known now (-1: it is not COVERED)", "4 its DISTRICT", "5 how much of it was SETTLED.");
    RainCover c = ready();
    c.down(0, 9);
    int[] uncovered = {0, -1, 30, -1, 1, 0};
    for (int what = 0; what < 6; what++) due(c.of(1, 8, what), uncovered[what]);
    c.enroll(1, 0, 8);
    c.rain(0, 8, 0, 60);
    c.rain(0, 7, 0, 10);
    int[] covered = {0, 0, 30, 40, 1, 0};
    for (int what = 0; what < 6; what++) due(c.of(1, 8, what), covered[what]);
    c.settle(8);
    due(c.of(1, 8, 5), 120);
    due(c.of(1, 7, 5), 0);
    due(c.of(0, 8, 5), 0);
    c.rain(0, 8, 0, 100);
    due(c.of(1, 8, 3), 0);
    due(c.of(1, 8, 5), 120);
    c.settle(8);
    due(c.of(1, 8, 5), 0);
    int[] noGauge = {-1, 0, -1, 0, 1, 0};
    for (int what = 0; what < 6; what++) due(c.of(1, 9, what), noGauge[what]);
    int[] neither = {-1, -1, -1, -1, 0, 0};
    for (int what = 0; what < 6; what++) due(c.of(0, 9, what), neither[what]);
  }

  private static void ofRefused() {
    says(20, "-5: none such.");
    RainCover c = ready();
    for (int what = 0; what < 6; what++) {
      int asked = what;
      range(0, 1, -5, farm -> c.of(farm, 0, asked));
      range(0, 15, -5, season -> c.of(0, season, asked));
    }
    range(0, 5, -5, what -> c.of(0, 0, what));
    due(new RainCover().of(0, 0, 0), -5);
  }

  private static void due() {
    says(21, "DUE, as known at k.",
        "DUE: AREA times PAY by the TERM by which it is COVERED in that SEASON; 0 if it is not.");
    RainCover c = ready();
    c.farm(0, 0, 0, 1);
    c.farm(0, 0, 0, 99);
    for (int f = 0; f < 4; f++) due(c.due(f, 0, 0), 0);
    for (int f = 0; f < 4; f++) c.enroll(f, 0, 1);
    c.rain(0, 1, 0, 100);
    c.rain(0, 1, 0, 0);
    c.rain(0, 1, 0, 99);
    int[] area = {2, 3, 1, 99};
    int[] pay = {100, 0, 100, 1, 1};
    for (int f = 0; f < 4; f++) {
      for (int k = 0; k < pay.length; k++) due(c.due(f, 1, k), area[f] * pay[k]);
      due(c.due(f, 1, HIGHEST), area[f]);
      due(c.due(f, 0, HIGHEST), 0);
    }
    c.lapse(0, 1);
    due(c.due(0, 1, 0), 0);
    c.enroll(0, 1, 1);
    due(c.due(0, 1, 1), 0);
    due(c.due(0, 1, 2), 2 * 7);

    says(21, "-5: no such FARM, SEASON, k.");
    range(0, 3, -5, farm -> c.due(farm, 1, 1));
    range(0, 15, -5, season -> c.due(0, season, 1));
    from(0, -5, k -> c.due(0, 1, k));
    due(new RainCover().due(0, 0, 0), -5);
  }

  private static void duePlantAndCrop() {
    says(21, "PAY of a FARM (in a SEASON, by a TERM, as known at k): by its GAUGE then, its PLANT, CROP (as they are "
        + "now); 0 without a GAUGE.");
    RainCover c = new RainCover();
    c.gauge(24, 0, 0);
    c.gauge(25, 0, 4);
    Check.term(c, BELOW_100);
    Check.term(c, "pay 1 if dry 0 to 0 > 0");
    c.farm(25, 0, 0, 1);
    c.enroll(0, 0, 0);
    c.law(0, 0);
    c.rain(0, 3, 0, 10);
    c.rain(0, 3, 5, 15);
    c.rain(1, 4, 0, 40);
    c.rain(1, 4, 5, 45);
    due(c.due(0, 3, 9), 90);
    due(c.due(0, 4, 9), 60);
    c.plant(1, 5);
    due(c.due(0, 3, 9), 85);
    due(c.due(0, 4, 9), 55);
    due(c.due(0, 4, 0), 100);
    c.plant(0, 1);
    due(c.due(0, 3, 9), 85);
    c.down(1, 4);
    c.rain(0, 4, 5, 33);
    due(c.due(0, 4, 9), 67);
    due(c.due(0, 4, 4), 85);
    c.down(0, 4);
    due(c.due(0, 4, 9), 0);
    due(c.due(0, 4, 0), 0);
    due(c.due(0, 3, 9), 85);
    int[] dryness = {100, 80, 120, 60};
    for (int crop = 0; crop < 4; crop++) {
      RainCover d = new RainCover();
      d.gauge(0, 0, 0);
      Check.term(d, "pay 1 if dry 0 to 0 > 0");
      d.farm(0, 0, crop, 1);
      d.enroll(0, 0, 0);
      d.rain(0, 0, 0, dryness[crop] - 1);
      d.rain(0, 0, 0, dryness[crop]);
      due(d.due(0, 0, 1), 1);
      due(d.due(0, 0, 2), 0);
    }
  }

  /** Two GAUGES with RAIN 10 and 20 and FARMS beside the middle, all COVERED by TERM 0. */
  private static RainCover twoSides(int... x) {
    RainCover c = new RainCover();
    c.gauge(0, 0, 0);
    c.gauge(50, 0, 0);
    c.rain(0, 0, 0, 10);
    c.rain(1, 0, 0, 20);
    Check.term(c, BELOW_100);
    Check.term(c, BELOW_100);
    for (int f = 0; f < x.length; f++) {
      c.farm(x[f], 0, 0, 1);
      c.enroll(f, 0, 0);
    }
    return c;
  }

  private static void line() {
    says(22, "OVER THE LINE in a SEASON: two FARMS COVERED by one TERM, DISTANCE d at most, with unlike GAUGES (none "
        + "is unlike any) and unlike PAY (as known now: at how many TELLINGS there are).");
    RainCover c = twoSides(24, 26);
    due(c.line(0, 1, 0), 0);
    due(c.line(0, 2, 0), 1);
    due(c.line(0, 198, 0), 1);
    c.rain(0, 0, 0, 20);
    due(c.line(0, 2, 0), 0);
    c.rain(0, 0, 0, 21);
    due(c.line(0, 2, 0), 1);
    c.lapse(0, 0);
    due(c.line(0, 2, 0), 0);
    c.enroll(0, 1, 0);
    due(c.line(0, 2, 0), 0);
    c.lapse(1, 0);
    due(c.line(0, 2, 0), 0);
    c.enroll(1, 1, 0);
    due(c.line(0, 2, 0), 1);
    c.down(1, 0);
    due(c.line(0, 198, 0), 0);
    c.down(0, 0);
    due(c.line(0, 198, 0), 0);
    due(twoSides(24, 25).line(0, 198, 0), 0);
    due(twoSides(26, 26).line(0, 198, 0), 0);

    RainCover d = twoSides(24, 26);
    d.farm(25, 0, 0, 1);
    d.plant(1, 1);
    d.enroll(2, 0, 0);
    // FARM 2 has the GAUGE of FARM 0, but is planted later, so only the GAUGES are alike.
    due(d.of(2, 0, 0), 0);
    due(d.of(2, 0, 3), 100);
    due(d.line(0, 1, 0), 0);
    due(d.line(0, 2, 0), 1);

    RainCover corners = new RainCover();
    corners.gauge(0, 0, 0);
    corners.gauge(99, 99, 0);
    Check.term(corners, BELOW_100);
    corners.rain(0, 0, 0, 1);
    for (int f = 0; f < 2; f++) {
      corners.farm(99 * f, 99 * f, 0, 1);
      corners.enroll(f, 0, 0);
    }
    due(corners.line(0, 197, 0), 0);
    due(corners.line(0, 198, 0), 1);
    RainCover one = new RainCover();
    one.gauge(10, 10, 0);
    one.gauge(10, 10, 0);
    Check.term(one, BELOW_100);
    for (int f = 0; f < 2; f++) {
      one.farm(10, 10, 0, 1);
      one.enroll(f, 0, 0);
    }
    due(one.line(0, 0, 0), 0);
  }

  private static void lineOfTwos() {
    says(22, "OVER THE LINE by DISTANCE d",
        ": how many twos of FARMS (what 0); of the first one (by the lesser FARM, then the greater) the lesser (1), "
        + "the greater (2; NONE).");
    RainCover c = twoSides(40, 26, 30, 24, 20);
    int[][] due = {{0, 0, -1, -1}, {1, 0, -1, -1}, {2, 1, 1, 3}, {5, 1, 1, 3}, {6, 3, 1, 3}, {10, 4, 1, 3},
      {15, 4, 1, 3}, {16, 5, 0, 3}, {20, 6, 0, 3}, {198, 6, 0, 3}};
    for (int[] d : due) {
      for (int what = 0; what < 3; what++) due(c.line(0, d[0], what), d[what + 1]);
    }
    for (int what = 0; what < 3; what++) due(c.line(15, 198, what), what == 0 ? 6 : what == 1 ? 0 : 3);
    c.down(1, 15);
    for (int what = 0; what < 3; what++) due(c.line(15, 198, what), what == 0 ? 0 : NONE);
    for (int what = 0; what < 3; what++) due(new RainCover().line(0, 0, what), what == 0 ? 0 : NONE);
  }

  private static void lineRefused() {
    says(22, "NONE: no such SEASON, what;");
    range(0, 15, NONE, season -> ready().line(season, 0, 0));
    range(0, 2, NONE, what -> twoSides(24, 26).line(0, 2, what));
    due(ready().line(16, 199, 0), NONE);
    due(ready().line(0, -1, 3), NONE);
    due(ready().line(0, 199, -1), NONE);
    due(ready().line(-1, 199, 0), NONE);

    says(22, "(0 .. 198)", "BAD.");
    range(0, 198, BAD, d -> ready().line(0, d, 0));
    due(ready().line(0, 199, 1), BAD);
    due(ready().line(0, -1, 2), BAD);
  }
}
