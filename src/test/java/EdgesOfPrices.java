/** Boundary cases of promises 27 to 36. */
final class EdgesOfPrices extends Edges {
  static void run() {
    known();
    mean();
    meanRefused();
    price();
    priceRefused();
    trend();
    trendRefused();
    beside();
    foretold();
    foretoldFilledAndGreen();
    foretoldRefused();
    income();
    byPlantAndCrop();
    total();
    layer();
    throwsOfYears();
    lasts();
    years();
    lastsRefused();
  }

  /** One GAUGE without a neighbour, TERM 0 that pays what WEEK 0 is below 100, TERM 1 that pays 1 if it is below 50. */
  private static RainCover ready() {
    RainCover c = new RainCover();
    c.gauge(0, 0, 0);
    Check.term(c, BELOW_100);
    Check.term(c, "pay 1 if week 0 < 50");
    return c;
  }

  /** Makes a SEASON KNOWN, by six weeks, with a PAY by TERM 0. */
  private static void known(RainCover c, int season, int pay) {
    c.rain(0, season, 0, 100 - pay);
    for (int week = 7; week < 12; week++) c.rain(0, season, week, 0);
  }

  private static void known() {
    says(27, "A SEASON is KNOWN of a GAUGE if 6 WEEKS or more of it are no GAPS now.");
    RainCover c = ready();
    c.gauge(0, 0, 0);
    for (int week = 0; week < 12; week++) {
      due(c.price(0, 0, 0, 0, 2), week < 6 ? 0 : 1);
      c.rain(0, 0, 11 - week, 0);
      c.rain(1, 15, week, 0);
      c.green(0, 5, week, 0);
    }
    due(c.price(0, 0, 0, 0, 2), 1);
    for (int week = 0; week < 12; week++) {
      c.rain(0, 0, week, -1);
      due(c.price(0, 0, 0, 0, 2), week < 6 ? 1 : 0);
    }
    c.down(1, 0);
    due(c.price(0, 1, 0, 0, 2), 1);
    RainCover all = ready();
    for (int season = 0; season < 16; season++) {
      known(all, season, 16);
      due(all.price(0, 0, 0, 0, 2), season + 1);
    }
    due(all.mean(0, 0, 0, 0, 0), 16);
  }

  private static void mean() {
    says(27, "MEAN of a TERM, GAUGE, PLANT, CROP: part 0, 1 as of basis().",
        "MEAN of a TERM, GAUGE, PLANT, CROP: of PAY (as known now) over all SEASONS KNOWN of it.");
    RainCover c = ready();
    int[][] told = {{15, 0, 0, 1}, {0, 1, 1, 2}, {3, 5, 2, 1}, {4, 0, 3, 2}, {9, 100, 106, 5}, {10, 100, 103, 3}};
    for (int[] t : told) {
      known(c, t[0], t[1]);
      due(c.mean(0, 0, 0, 0, 0), t[2]);
      due(c.mean(0, 0, 0, 0, 1), t[3]);
    }
    c.rain(0, 11, 0, 99);
    for (int week = 1; week < 5; week++) c.rain(0, 11, week, 0);
    due(c.mean(0, 0, 0, 0, 0), 103);
    c.rain(0, 11, 5, 0);
    due(c.mean(0, 0, 0, 0, 0), 207);
    due(c.mean(0, 0, 0, 0, 1), 7);
    c.rain(0, 11, 0, 100);
    c.rain(0, 11, 6, 0);
    due(c.mean(0, 0, 0, 0, 0), 206);
    // WEEK 5 of the other SEASONS is filled with that of SEASON 11.
    due(c.mean(0, 0, 5, 0, 0), 100);
    due(c.mean(0, 0, 5, 0, 1), 1);
  }

  private static void meanRefused() {
    says(27, "NO: none such, no SEASON is KNOWN.");
    RainCover c = ready();
    for (int part = 0; part < 2; part++) due(c.mean(0, 0, 0, 0, part), NO);
    known(c, 0, 5);
    range(0, 1, NO, term -> c.mean(term, 0, 0, 0, 0));
    range(0, 0, NO, gauge -> c.mean(0, gauge, 0, 0, 0));
    range(0, 5, NO, plant -> c.mean(0, 0, plant, 0, 0));
    range(0, 3, NO, crop -> c.mean(0, 0, 0, crop, 0));
    range(0, 1, NO, part -> c.mean(0, 0, 0, 0, part));
    c.rain(0, 0, 0, -1);
    due(c.mean(0, 0, 0, 0, 0), NO);
    due(new RainCover().mean(0, 0, 0, 0, 0), NO);
  }

  private static void price() {
    says(28, "PRICE (what 0), OWN (1), how many SEASONS are KNOWN (2).",
        "PRICE: MEAN and LOAD (0 .. 300; 20 at first) of 100 of it more, rounded up; OWN: PRICE less SUBSIDY (0 .. "
        + "100; 0 at first) of 100 of it, rounded up.");
    // PAY of two SEASONS, LOAD, SUBSIDY, then PRICE, OWN.
    int[][] prices = {{50, 50, 20, 0, 60, 60}, {0, 0, 300, 0, 0, 0}, {0, 1, 0, 0, 1, 1}, {0, 1, 100, 0, 1, 1},
      {0, 1, 101, 0, 2, 2}, {1, 1, 0, 0, 1, 1}, {1, 1, 1, 0, 2, 2}, {1, 1, 100, 0, 2, 2}, {1, 1, 300, 0, 4, 4},
      {100, 100, 0, 0, 100, 100}, {100, 100, 0, 1, 100, 99}, {100, 100, 1, 1, 101, 100}, {100, 100, 0, 99, 100, 1},
      {100, 100, 0, 100, 100, 0}, {50, 50, 1, 50, 51, 26}, {99, 100, 0, 50, 100, 50}, {1, 1, 0, 99, 1, 1},
      {1, 1, 0, 100, 1, 0}, {50, 50, 1, 1, 51, 51}, {0, 1, 0, 50, 1, 1}, {100, 100, 300, 100, 400, 0},
      {100, 99, 300, 1, 398, 395}};
    for (int[] p : prices) {
      RainCover c = ready();
      known(c, 3, p[0]);
      known(c, 4, p[1]);
      due(c.price(0, 0, 0, 0, 0), ((p[0] + p[1]) * 120 + 199) / 200);
      c.law(2, p[2]);
      c.law(3, p[3]);
      due(c.price(0, 0, 0, 0, 0), p[4]);
      due(c.price(0, 0, 0, 0, 1), p[5]);
      due(c.price(0, 0, 0, 0, 2), 2);
    }
    RainCover most = new RainCover();
    most.gauge(0, 0, 0);
    Check.term(most, "pay 9999 if week 0 < 1");
    for (int season = 0; season < 16; season++) Check.even(most, 0, season, 0);
    most.law(2, 300);
    due(most.price(0, 0, 0, 0, 0), 39996);
    due(most.price(0, 0, 0, 0, 1), 39996);
    due(most.price(0, 0, 0, 0, 2), 16);
  }

  private static void priceRefused() {
    says(28, "NONE: none such.", "Without SEASONS KNOWN there is none (0).");
    RainCover c = ready();
    for (int what = 0; what < 3; what++) due(c.price(0, 0, 0, 0, what), 0);
    for (int what = 0; what < 3; what++) {
      int asked = what;
      range(0, 1, NONE, term -> c.price(term, 0, 0, 0, asked));
      range(0, 0, NONE, gauge -> c.price(0, gauge, 0, 0, asked));
      range(0, 5, NONE, plant -> c.price(0, 0, plant, 0, asked));
      range(0, 3, NONE, crop -> c.price(0, 0, 0, crop, asked));
    }
    range(0, 2, NONE, what -> c.price(0, 0, 0, 0, what));
    due(new RainCover().price(0, 0, 0, 0, 2), NONE);
  }

  private static void trend() {
    says(29, "TREND: part 0, 1 as of basis() (0 is 0 by 1).",
        "TREND: over these SEASONS (two at least) the slope of the straight line nearest to PAY (least squares): n "
        + "times the sum of number by PAY less the sum of numbers times the sum of PAYS, by n times the sum of "
        + "squares of numbers less the square of their sum.");
    // The numbers and PAYS of two or more SEASONS, then the TREND above and below the line.
    int[][] seasons = {{0, 15}, {0, 15}, {0, 15}, {14, 15}, {0, 1, 2}, {0, 1, 2}, {1, 4, 6}, {3, 9}, {0, 5, 10, 15}};
    int[][] pays = {{0, 100}, {100, 0}, {7, 7}, {1, 100}, {5, 5, 5}, {1, 0, 0}, {90, 70, 20}, {2, 5}, {0, 100, 0, 100}};
    int[][] slopes = {{20, 3}, {-20, 3}, {0, 1}, {99, 1}, {0, 1}, {-1, 2}, {-255, 19}, {1, 2}, {4, 1}};
    for (int i = 0; i < seasons.length; i++) {
      RainCover c = ready();
      for (int s = seasons[i].length - 1; s >= 0; s--) known(c, seasons[i][s], pays[i][s]);
      for (int part = 0; part < 2; part++) due(c.trend(0, 0, 0, 0, part), slopes[i][part]);
    }
    RainCover all = ready();
    for (int season = 0; season < 16; season++) known(all, season, season < 8 ? 0 : 100);
    due(all.trend(0, 0, 0, 0, 0), 160);
    due(all.trend(0, 0, 0, 0, 1), 17);
  }

  private static void trendRefused() {
    says(29, "NO: none such, fewer than two SEASONS KNOWN.");
    RainCover c = ready();
    for (int part = 0; part < 2; part++) due(c.trend(0, 0, 0, 0, part), NO);
    known(c, 0, 5);
    for (int part = 0; part < 2; part++) due(c.trend(0, 0, 0, 0, part), NO);
    known(c, 1, 5);
    for (int part = 0; part < 2; part++) due(c.trend(0, 0, 0, 0, part), part);
    range(0, 1, NO, term -> c.trend(term, 0, 0, 0, 0));
    range(0, 0, NO, gauge -> c.trend(0, gauge, 0, 0, 0));
    range(0, 5, NO, plant -> c.trend(0, 0, plant, 0, 0));
    range(0, 3, NO, crop -> c.trend(0, 0, 0, crop, 0));
    range(0, 1, NO, part -> c.trend(0, 0, 0, 0, part));
    c.rain(0, 1, 11, -1);
    due(c.trend(0, 0, 0, 0, 0), NO);
    due(new RainCover().trend(0, 0, 0, 0, 0), NO);
  }

  private static void beside() {
    says(30, "BESIDE: what 0 .. 3, in the order told.",
        "BESIDE: of these SEASONS in how many of two TERMS only the first pays (PAY above 0), only the second, both, "
        + "none.");
    RainCover c = ready();
    for (int what = 0; what < 4; what++) due(c.beside(0, 1, 0, 0, 0, what), 0);
    Check.term(c, "pay 1 if week 0 > 95");
    Check.term(c, "pay 0 if week 0 < 9999");
    // By TERM 0, 1, 2: 100 pays nothing, nothing, 1; 99 pays 1, 0, 1; 60 pays 40, 0, 0; 10 pays 90, 1, 0.
    int[] seasons = {0, 15, 3, 4, 5, 6, 7, 8, 9, 10};
    int[] pays = {0, 1, 40, 40, 90, 90, 90, 0, 0, 0};
    for (int i = 0; i < seasons.length; i++) known(c, seasons[i], pays[i]);
    for (int week = 0; week < 5; week++) c.rain(0, 11, week, 0);
    c.gauge(99, 99, 0);
    Check.even(c, 1, 0, 0);
    int[][][] due = {{{0, 1}, {3, 0, 3, 4}}, {{1, 0}, {0, 3, 3, 4}}, {{0, 2}, {5, 4, 1, 0}}, {{2, 0}, {4, 5, 1, 0}},
      {{1, 2}, {3, 5, 0, 2}}, {{0, 0}, {0, 0, 6, 4}}, {{3, 0}, {0, 6, 0, 4}}, {{3, 3}, {0, 0, 0, 10}}};
    for (int[][] d : due) {
      for (int what = 0; what < 4; what++) due(c.beside(d[0][0], d[0][1], 0, 0, 0, what), d[1][what]);
    }

    says(30, "NONE: none such.");
    range(0, 3, NONE, first -> c.beside(first, 0, 0, 0, 0, 0));
    range(0, 3, NONE, second -> c.beside(0, second, 0, 0, 0, 0));
    range(0, 1, NONE, gauge -> c.beside(0, 1, gauge, 0, 0, 0));
    range(0, 5, NONE, plant -> c.beside(0, 1, 0, plant, 0, 0));
    range(0, 3, NONE, crop -> c.beside(0, 1, 0, 0, crop, 0));
    range(0, 3, NONE, what -> c.beside(0, 1, 0, 0, 0, what));
    due(new RainCover().beside(0, 0, 0, 0, 0, 0), NONE);
  }

  /** TERM 0 pays what the whole SEASON is below 9999; SEASONS 0, 1, 15 are KNOWN, with 1, 10, 20 in each WEEK. */
  private static RainCover rows() {
    RainCover c = new RainCover();
    c.gauge(75, 30, 0);
    Check.term(c, "rate 1 per 1 below 9999 of sum 0 to 11 max 9999");
    Check.term(c, "pay 5 if green 3 to 5 > 40");
    Check.even(c, 0, 0, 1);
    Check.even(c, 0, 1, 10);
    Check.even(c, 0, 15, 20);
    return c;
  }

  private static void foretold() {
    says(31, "FORETOLD: what 0 .. 3, in the order told (0 each without such s).",
        "FORETOLD for a SEASON at a WEEK: for each other SEASON s that is KNOWN of the GAUGE:",
        ": the least, the greatest, the sum, of how many s.");
    RainCover c = rows();
    c.gauge(0, 99, 0);
    Check.even(c, 1, 0, 700);
    for (int week = 0; week < 5; week++) c.rain(0, 7, week, 500);
    for (int week = 0; week <= 12; week++) {
      int one = 9999 - week - 10 * (12 - week);
      int other = 9999 - week - 20 * (12 - week);
      int[] due = {other, one, one + other, 2};
      for (int what = 0; what < 4; what++) due(c.foretold(0, 0, 0, week, 0, 0, what), due[what]);
    }
    int[] of15 = {9999 - 120, 9999 - 12, 2 * 9999 - 132, 2};
    for (int what = 0; what < 4; what++) due(c.foretold(0, 0, 15, 0, 0, 0, what), of15[what]);
    due(c.foretold(0, 0, 7, 0, 0, 0, 3), 3);
    c.rain(0, 7, 11, 500);
    due(c.foretold(0, 0, 0, 0, 0, 0, 3), 3);
    due(c.foretold(0, 0, 7, 0, 0, 0, 3), 3);
    c.gauge(0, 0, 0);
    Check.even(c, 2, 3, 2);
    for (int what = 0; what < 4; what++) due(c.foretold(0, 2, 3, 5, 0, 0, what), 0);
    for (int what = 0; what < 4; what++) due(c.foretold(0, 2, 4, 12, 0, 0, what), what == 3 ? 1 : 9999 - 24);
  }

  private static void foretoldFilledAndGreen() {
    says(31, "PAY if all WEEKS from that one on were FILLED with what is FILLED in s (GREEN: with that of s), those "
        + "ahead as they are");
    RainCover c = rows();
    c.rain(0, 1, 6, -1);
    c.rain(0, 15, 0, -1);
    // WEEK 6 of SEASON 1 is filled with (1 + 20) / 2 = 10, WEEK 0 of SEASON 15 with (1 + 10) / 2 = 5.
    due(c.foretold(0, 0, 0, 0, 0, 0, 1), 9999 - 120);
    due(c.foretold(0, 0, 0, 0, 0, 0, 0), 9999 - 5 - 220);
    c.rain(0, 0, 3, -1);
    // WEEK 3 of SEASON 0 is filled with (10 + 20) / 2 = 15, where it lies ahead.
    due(c.foretold(0, 0, 0, 3, 0, 0, 1), 9999 - 3 - 90);
    due(c.foretold(0, 0, 0, 4, 0, 0, 1), 9999 - 3 - 15 - 80);

    RainCover d = rows();
    for (int what = 0; what < 3; what++) due(d.foretold(1, 0, 0, 3, 0, 0, what), 0);
    for (int district = 0; district < 3; district++) {
      for (int week = 0; week < 12; week++) d.green(district, week % 2, week, 100);
    }
    d.green(3, 1, 3, 41);
    d.green(3, 0, 4, 99);
    int[] sums = {5, 5, 5, 5, 0, 10, 10, 10, 10, 10, 10, 10, 10};
    for (int week = 0; week <= 12; week++) due(d.foretold(1, 0, 0, week, 0, 0, 2), sums[week]);
    d.green(3, 15, 5, 41);
    due(d.foretold(1, 0, 0, 3, 0, 0, 2), 10);
    due(d.foretold(1, 0, 0, 4, 0, 0, 2), 5);
    due(d.foretold(1, 0, 0, 4, 1, 0, 2), 5);
    due(d.foretold(1, 0, 0, 4, 2, 0, 2), 5);
    due(d.foretold(1, 0, 0, 4, 3, 0, 2), 0);
  }

  private static void foretoldRefused() {
    says(31, "NONE: none such (week 0 .. 12).");
    RainCover c = rows();
    for (int what = 0; what < 4; what++) {
      int asked = what;
      range(0, 1, NONE, term -> c.foretold(term, 0, 0, 0, 0, 0, asked));
      range(0, 0, NONE, gauge -> c.foretold(0, gauge, 0, 0, 0, 0, asked));
      range(0, 15, NONE, season -> c.foretold(0, 0, season, 0, 0, 0, asked));
      range(0, 12, NONE, week -> c.foretold(0, 0, 0, week, 0, 0, asked));
      range(0, 5, NONE, plant -> c.foretold(0, 0, 0, 0, plant, 0, asked));
      range(0, 3, NONE, crop -> c.foretold(0, 0, 0, 0, 0, crop, asked));
    }
    range(0, 3, NONE, what -> c.foretold(0, 0, 0, 0, 0, 0, what));
    due(new RainCover().foretold(0, 0, 0, 0, 0, 0, 0), NONE);
  }

  /** Two FARMS, of AREA 2 and 3, COVERED by TERM 0 from SEASON 4 on and by TERM 1 from SEASON 5 on; no LOAD. */
  private static RainCover covered() {
    RainCover c = ready();
    c.law(2, 0);
    c.farm(0, 0, 0, 2);
    c.farm(30, 0, 3, 3);
    c.enroll(0, 0, 4);
    c.enroll(1, 1, 5);
    return c;
  }

  private static void income() {
    says(32, "INCOME in a SEASON.",
        "In a SEASON q: INCOME: over all FARMS COVERED, with a GAUGE, AREA times PRICE of their TERM on it by their "
        + "PLANT, CROP.");
    due(new RainCover().income(0), 0);
    RainCover c = covered();
    for (int q = 0; q < 16; q++) due(c.income(q), 0);
    known(c, 0, 60);
    int[] due = {0, 0, 0, 0, 120, 123, 123, 123, 123, 123, 123, 123, 123, 123, 123, 123};
    for (int q = 0; q < 16; q++) due(c.income(q), due[q]);
    known(c, 9, 41);
    due(c.income(15), 2 * 51 + 3);
    c.law(3, 100);
    due(c.income(15), 105);
    c.law(2, 20);
    due(c.income(15), 2 * 61 + 3);
    c.plant(1, 1);
    c.rain(0, 3, 1, 50);
    due(c.income(15), 2 * 61);
    c.lapse(0, 15);
    due(c.income(15), 0);
    due(c.income(14), 122);
    c.down(0, 14);
    due(c.income(14), 0);
    due(c.income(13), 122);

    says(32, "NONE.");
    range(0, 15, NONE, q -> covered().income(q));
  }

  /** FARMS of each KIND at x 10, 30, 60, 90 with a GAUGE in the first DISTRICT; TERM 0 pays 10 for each dry WEEK 0. */
  private static RainCover kinds() {
    RainCover c = new RainCover();
    c.law(2, 0);
    c.gauge(0, 0, 0);
    Check.term(c, "pay 10 if dry 0 to 0 > 0");
    int[] x = {10, 30, 60, 90};
    for (int f = 0; f < 4; f++) {
      c.farm(x[f], 0, f, 1 << f);
      c.enroll(f, 0, 0);
    }
    return c;
  }

  private static void byPlantAndCrop() {
    // RAIN of all WEEKS, and which of the FARMS have it dry.
    int[][] rains = {{59, 15}, {60, 7}, {79, 7}, {80, 5}, {99, 5}, {100, 4}, {119, 4}, {120, 0}};
    for (int[] rain : rains) {
      RainCover c = kinds();
      Check.even(c, 0, 0, rain[0]);
      says(32, "by their PLANT, CROP.");
      due(c.income(3), 10 * rain[1]);
      says(33, "over these AREA times PAY by their TERM and GAUGE in q");
      due(c.total(0, 3), 10 * rain[1]);
    }
    for (int district = 0; district < 4; district++) {
      RainCover c = kinds();
      Check.season(c, 0, 0, 200, 200, 200, 0, 200, 200);
      due(c.total(0, 3), 0);
      c.plant(district, 3);
      says(32, "by their PLANT, CROP.");
      due(c.income(3), 10 << district);
      says(33, "over these AREA times PAY by their TERM and GAUGE in q");
      due(c.total(0, 3), 10 << district);
    }
  }

  private static void total() {
    says(33, "TOTAL of SEASON s for q.",
        "TOTAL of SEASON s for q: over these AREA times PAY by their TERM and GAUGE in q, on the rows of s.");
    due(new RainCover().total(0, 0), 0);
    RainCover c = covered();
    c.rain(0, 2, 0, 60);
    c.rain(0, 3, 0, 40);
    int[] of2 = {0, 0, 0, 0, 80, 80, 80, 80, 80, 80, 80, 80, 80, 80, 80, 80};
    int[] of3 = {0, 0, 0, 0, 120, 123, 123, 123, 123, 123, 123, 123, 123, 123, 123, 123};
    for (int q = 0; q < 16; q++) {
      due(c.total(2, q), of2[q]);
      due(c.total(3, q), of3[q]);
      due(c.total(15, q), q < 4 ? 0 : 100);
    }
    c.gauge(1, 0, 6);
    c.law(0, 0);
    c.rain(1, 2, 0, 0);
    due(c.total(2, 5), 80);
    due(c.total(2, 6), 80 + 3);
    due(c.total(6, 5), 100);
    due(c.total(6, 6), 100 + 3);
    c.down(0, 6);
    due(c.total(2, 6), 200 + 3);
    c.down(1, 6);
    due(c.total(2, 6), 0);
    due(c.total(2, 5), 80);

    says(33, "NONE.");
    range(0, 15, NONE, s -> covered().total(s, 0));
    range(0, 15, NONE, q -> covered().total(0, q));
  }

  private static void layer() {
    says(34, "What a LAYER from a to b (0 .. 2000000000, a at most b) bears of TOTAL: what is above a, b less a at "
        + "most.");
    RainCover c = covered();
    c.rain(0, 2, 0, 60);
    int[][] due = {{0, 0, 0}, {0, 1, 1}, {0, 79, 79}, {0, 80, 80}, {0, 81, 80}, {0, 2000000000, 80}, {1, 80, 79},
      {79, 79, 0}, {79, 80, 1}, {79, 2000000000, 1}, {80, 80, 0}, {80, 81, 0}, {80, 2000000000, 0}, {10, 20, 10},
      {10, 90, 70}, {2000000000, 2000000000, 0}};
    for (int[] d : due) due(c.layer(2, 5, d[0], d[1]), d[2]);
    due(c.layer(2, 3, 0, 2000000000), 0);

    says(34, "NONE; BAD.");
    range(0, 15, NONE, s -> covered().layer(s, 0, 0, 0));
    range(0, 15, NONE, q -> covered().layer(0, q, 0, 0));
    range(0, 2000000000, BAD, a -> covered().layer(0, 0, a, 2000000000));
    range(0, 2000000000, BAD, b -> covered().layer(0, 0, 0, b));
    range(0, 80, BAD, a -> covered().layer(0, 0, a, 80));
    due(c.layer(0, 0, 2000000001, 2000000001), BAD);
    due(c.layer(0, 0, -2, -1), BAD);
    due(c.layer(16, 0, -1, 0), NONE);
    due(c.layer(0, -1, 5, 4), NONE);
  }

  /** SEASONS 2, 5, 9 are KNOWN, told the last one first, in which a FARM gets 0, 50, 100; INCOME is 50. */
  private static RainCover threeYears() {
    RainCover c = ready();
    c.law(2, 0);
    known(c, 9, 100);
    known(c, 2, 0);
    known(c, 5, 50);
    c.farm(0, 0, 0, 1);
    c.enroll(0, 0, 0);
    return c;
  }

  private static void throwsOfYears() {
    says(35, "z becomes this: 1.",
        "A throw of YEARS: z becomes z * 1103515245 + 12345 (an int; z is told, 1 at first); the YEAR is that of "
        + "number (z >>> 8) modulo how many, in order.");
    int[] leaves = {50, 0, -50};
    RainCover first = threeYears();
    int[] z = {1};
    for (int i = 0; i < 20; i++) due(first.lasts(0, 0, 1, 1), Check.lasting(z, 0, leaves, 1, 1));
    for (int told : new int[] {0, 1, -1, 2, 7, LOWEST, HIGHEST, 12345, -12345, 1 << 24, -(1 << 24)}) {
      RainCover c = threeYears();
      due(c.lots(told), 1);
      z[0] = told;
      for (int i = 0; i < 10; i++) {
        due(c.lasts(49, 0, 1, 1), Check.lasting(z, 49, leaves, 1, 1));
        due(c.lasts(0, 0, 2, 3), Check.lasting(z, 0, leaves, 2, 3));
      }
      c.lots(told);
      z[0] = told;
      due(c.lasts(0, 0, 1, 40), Check.lasting(z, 0, leaves, 1, 40));
    }
  }

  private static void lasts() {
    says(36, "Of m (1 .. 40) rows of n (1 .. 40) thrown YEARS one behind the other, for q, how many LAST, each from "
        + "the told RESERVE (0 .. 2000000000).",
        "LASTS: a RESERVE, as told, gets INCOME and loses TOTAL of the thrown YEAR, n times (all are thrown, "
        + "whatever comes); it LASTS if it is never below 0 behind one of these.");
    int[] leaves = {50, 0, -50};
    int[] z = {1};
    RainCover c = threeYears();
    int[] reserves = {0, 1, 49, 50, 51, 99, 100, 101, 149, 150, 2000000000};
    int[][] sizes = {{1, 1}, {1, 40}, {2, 40}, {3, 7}, {40, 1}, {40, 40}};
    for (int reserve : reserves) {
      for (int[] size : sizes) due(c.lasts(reserve, 0, size[0], size[1]), Check.lasting(z, reserve, leaves, size[0],
          size[1]));
    }
    RainCover even = ready();
    even.law(2, 0);
    known(even, 0, 100);
    even.farm(0, 0, 0, 99);
    even.enroll(0, 0, 3);
    due(even.lasts(0, 3, 40, 40), 40);
    due(even.lasts(0, 0, 40, 40), 40);
    known(even, 1, 0);
    z[0] = 5;
    even.lots(5);
    int[] great = {99 * 50 - 9900, 99 * 50};
    due(even.lasts(4949, 3, 40, 40), Check.lasting(z, 4949, great, 40, 40));
    due(even.lasts(4950, 3, 40, 40), Check.lasting(z, 4950, great, 40, 40));
    due(even.lasts(2000000000, 3, 40, 40), 40);
    RainCover most = new RainCover();
    most.gauge(0, 0, 0);
    Check.term(most, "pay 9999 if week 0 < 1");
    Check.even(most, 0, 0, 0);
    for (int f = 0; f < 24; f++) {
      most.farm(0, 0, 0, 99);
      most.enroll(f, 0, 0);
    }
    most.law(2, 300);
    due(most.income(0), 24 * 99 * 9999 * 4);
    due(most.lasts(2000000000, 0, 40, 40), 40);
    due(most.lasts(0, 0, 40, 40), 40);
  }

  private static void years() {
    says(36, "YEARS for q: SEASONS that are KNOWN of all GAUGES that are STANDING in q (there is one such GAUGE at "
        + "least).", "STATE: there are no YEARS.");
    due(new RainCover().lasts(0, 0, 1, 1), STATE);
    RainCover c = ready();
    c.gauge(0, 0, 5);
    c.down(0, 9);
    c.down(1, 12);
    for (int q : new int[] {0, 5, 9, 12}) due(c.lasts(0, q, 1, 1), STATE);
    known(c, 3, 0);
    int[] byOne = {1, 1, 1, 1, 1, STATE, STATE, STATE, STATE, STATE, STATE, STATE, STATE, STATE, STATE, STATE};
    for (int q = 0; q < 16; q++) due(c.lasts(0, q, 1, 1), byOne[q]);
    for (int week = 0; week < 5; week++) c.rain(1, 3, week, 0);
    for (int q = 0; q < 16; q++) due(c.lasts(0, q, 1, 1), byOne[q]);
    c.rain(1, 3, 5, 0);
    for (int q = 0; q < 16; q++) due(c.lasts(0, q, 1, 1), q < 12 ? 1 : STATE);
    c.rain(0, 3, 0, -1);
    for (int q = 0; q < 16; q++) due(c.lasts(0, q, 1, 1), q >= 9 && q < 12 ? 1 : STATE);
    known(c, 4, 0);
    for (int q = 0; q < 16; q++) due(c.lasts(0, q, 1, 1), q < 5 || q >= 9 && q < 12 ? 1 : STATE);
    // Known of a GAUGE that does not stand in q: it has no YEAR, and makes none of the others' one.
    RainCover beside = ready();
    beside.gauge(99, 99, 9);
    for (int week = 0; week < 12; week++) beside.rain(1, 0, week, 0);
    due(beside.lasts(0, 0, 1, 1), STATE);
    RainCover still = threeYears();
    still.lots(77);
    still.down(0, 8);
    due(still.lasts(0, 8, 40, 40), STATE);
    goesOnFrom(still, 77);
  }

  /** What each of the next throws of threeYears() is, one by one: it LASTS from 0 but for the third YEAR. */
  private static void goesOnFrom(RainCover c, int told) {
    int[] z = {told};
    for (int i = 0; i < 20; i++) due(c.lasts(0, 0, 1, 1), Check.lasting(z, 0, new int[] {50, 0, -50}, 1, 1));
    for (int i = 0; i < 20; i++) due(c.lasts(49, 0, 2, 1), Check.lasting(z, 49, new int[] {50, 0, -50}, 2, 1));
  }

  private static void lastsRefused() {
    says(36, "NONE; BAD;");
    range(0, 15, NONE, q -> threeYears().lasts(0, q, 1, 1));
    range(0, 2000000000, BAD, reserve -> threeYears().lasts(reserve, 0, 1, 1));
    range(1, 40, BAD, n -> threeYears().lasts(0, 0, n, 1));
    range(1, 40, BAD, m -> threeYears().lasts(0, 0, 1, m));
    due(new RainCover().lasts(-1, 16, 0, 0), NONE);
    due(new RainCover().lasts(-1, 0, 1, 1), BAD);
    due(new RainCover().lasts(0, 0, 0, 1), BAD);
    due(new RainCover().lasts(0, 0, 1, 41), BAD);
    RainCover c = threeYears();
    c.lots(78);
    c.lasts(-1, 0, 1, 1);
    c.lasts(0, 0, 41, 1);
    c.lasts(0, 16, 1, 1);
    goesOnFrom(c, 78);
  }
}
