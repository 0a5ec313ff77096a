/** Promises 27 to 36: means, prices, trends, what is foretold, income, totals, layers, the reserve. */
public final class PricesTest {
  private static final String BELOW_100 = "rate 1 per 1 below 100 of sum 0 to 0 max 100";

  public static void main(String[] args) {
    means();
    prices();
    trends();
    beside();
    foretold();
    foretoldByGreenAndPlant();
    incomeAndTotals();
    layers();
    years();
    reserve();
    greatReserve();
    Check.end();
  }

  /** A GAUGE with SEASONS 1, 4, 6 KNOWN that pay 90, 70, 20 by TERM 0, and SEASON 8 that is not KNOWN. */
  private static RainCover threeKnown() {
    RainCover c = new RainCover();
    c.gauge(0, 0, 0);
    Check.term(c, BELOW_100);
    Check.season(c, 0, 1, 10, 1, 2, 3, 4, 5);
    Check.season(c, 0, 4, 30, -1, -1, -1, -1, -1, 1, 1, 1, 1, 1);
    Check.even(c, 0, 6, 80);
    Check.season(c, 0, 8, 0, 0, 0, 0, 0);
    return c;
  }

  private static void means() {
    RainCover c = threeKnown();
    Check.due("27: above", c.mean(0, 0, 0, 0, 0), 60);
    Check.due("27: below", c.mean(0, 0, 0, 0, 1), 1);
    c.rain(0, 6, 0, 81);
    Check.due("27: above", c.mean(0, 0, 0, 0, 0), 179);
    Check.due("27: below", c.mean(0, 0, 0, 0, 1), 3);
    c.rain(0, 1, 5, -1);
    Check.due("27: five weeks are not known", c.mean(0, 0, 0, 0, 0), 89);
    Check.due("27: five weeks are not known", c.mean(0, 0, 0, 0, 1), 2);
    c.rain(0, 4, 6, -1);
    Check.due("27: of one", c.mean(0, 0, 0, 0, 0), 19);
    Check.due("27: of one", c.mean(0, 0, 0, 0, 1), 1);
    Check.due("27: term", c.mean(1, 0, 0, 0, 0), RainCover.NO);
    Check.due("27: gauge", c.mean(0, 1, 0, 0, 0), RainCover.NO);
    Check.due("27: plant", c.mean(0, 0, 6, 0, 0), RainCover.NO);
    Check.due("27: crop", c.mean(0, 0, 0, 4, 0), RainCover.NO);
    Check.due("27: part", c.mean(0, 0, 0, 0, 2), RainCover.NO);
    Check.due("27: part", c.mean(0, 0, 0, 0, -1), RainCover.NO);
    c.gauge(0, 0, 0);
    Check.due("27: a neighbour's rain makes nothing known", c.mean(0, 1, 0, 0, 0), RainCover.NO);
  }

  private static void prices() {
    RainCover c = threeKnown();
    c.rain(0, 6, 0, 81);
    Check.due("28: 179 by 3, 20 of 100 more", c.price(0, 0, 0, 0, 0), 72);
    Check.due("28: own, no subsidy", c.price(0, 0, 0, 0, 1), 72);
    Check.due("28: known", c.price(0, 0, 0, 0, 2), 3);
    c.law(3, 1);
    Check.due("28: own of 71.28", c.price(0, 0, 0, 0, 1), 72);
    c.law(3, 50);
    Check.due("28: own of 36", c.price(0, 0, 0, 0, 1), 36);
    c.law(3, 100);
    Check.due("28: own of 0", c.price(0, 0, 0, 0, 1), 0);
    c.law(3, 99);
    c.law(2, 41);
    Check.due("28: 84.13", c.price(0, 0, 0, 0, 0), 85);
    Check.due("28: own of 0.85", c.price(0, 0, 0, 0, 1), 1);
    c.law(2, 68);
    Check.due("28: 100.24", c.price(0, 0, 0, 0, 0), 101);
    Check.due("28: own of 1.01", c.price(0, 0, 0, 0, 1), 2);
    c.law(2, 0);
    Check.due("28: no load", c.price(0, 0, 0, 0, 0), 60);
    c.law(2, 300);
    Check.due("28: most load", c.price(0, 0, 0, 0, 0), 239);
    Check.due("28: what", c.price(0, 0, 0, 0, 3), RainCover.NONE);
    Check.due("28: what", c.price(0, 0, 0, 0, -1), RainCover.NONE);
    Check.due("28: term", c.price(-1, 0, 0, 0, 0), RainCover.NONE);
    Check.due("28: gauge", c.price(0, 1, 0, 0, 0), RainCover.NONE);
    Check.due("28: plant", c.price(0, 0, -1, 0, 0), RainCover.NONE);
    Check.due("28: crop", c.price(0, 0, 0, -1, 0), RainCover.NONE);
    c.gauge(99, 99, 0);
    for (int what = 0; what < 3; what++) Check.due("28: nothing known", c.price(0, 1, 0, 0, what), 0);
  }

  private static void trends() {
    RainCover c = threeKnown();
    // numbers 1, 4, 6, pays 90, 70, 20: (3 * 490 - 11 * 180) by (3 * 53 - 121)
    Check.due("29: above", c.trend(0, 0, 0, 0, 0), -255);
    Check.due("29: below", c.trend(0, 0, 0, 0, 1), 19);
    c.rain(0, 1, 0, 30);
    c.rain(0, 6, 0, 30);
    Check.due("29: 0", c.trend(0, 0, 0, 0, 0), 0);
    Check.due("29: 0 by 1", c.trend(0, 0, 0, 0, 1), 1);
    c.rain(0, 6, 0, 20);
    Check.due("29: rising", c.trend(0, 0, 0, 0, 0), 35);
    Check.due("29: rising", c.trend(0, 0, 0, 0, 1), 19);
    c.rain(0, 1, 0, -1);
    Check.due("29: of two", c.trend(0, 0, 0, 0, 0), 5);
    Check.due("29: of two", c.trend(0, 0, 0, 0, 1), 1);
    c.rain(0, 4, 0, -1);
    Check.due("29: of one", c.trend(0, 0, 0, 0, 0), RainCover.NO);
    Check.even(c, 0, 0, 26);
    Check.due("29: with season 0", c.trend(0, 0, 0, 0, 0), 1);
    Check.due("29: with season 0", c.trend(0, 0, 0, 0, 1), 1);
    c = threeKnown();
    Check.due("29: term", c.trend(1, 0, 0, 0, 0), RainCover.NO);
    Check.due("29: gauge", c.trend(0, -1, 0, 0, 0), RainCover.NO);
    Check.due("29: plant", c.trend(0, 0, 6, 0, 0), RainCover.NO);
    Check.due("29: crop", c.trend(0, 0, 0, 4, 0), RainCover.NO);
    Check.due("29: part", c.trend(0, 0, 0, 0, 2), RainCover.NO);
  }

  private static void beside() {
    RainCover c = threeKnown();
    Check.even(c, 0, 9, 100);
    Check.even(c, 0, 10, 200);
    Check.even(c, 0, 11, 300);
    Check.term(c, "pay 1 if week 0 > 75 and week 0 < 250");
    int[] due = {2, 2, 1, 1};
    for (int what = 0; what < 4; what++) Check.due("30: what " + what, c.beside(0, 1, 0, 0, 0, what), due[what]);
    c.rain(0, 1, 0, 80);
    int[] then = {1, 2, 2, 1};
    int[] turned = {2, 1, 2, 1};
    for (int what = 0; what < 4; what++) {
      Check.due("30: then " + what, c.beside(0, 1, 0, 0, 0, what), then[what]);
      Check.due("30: turned " + what, c.beside(1, 0, 0, 0, 0, what), turned[what]);
    }
    Check.even(c, 0, 0, 0);
    Check.due("30: with season 0", c.beside(0, 1, 0, 0, 0, 0), 2);
    Check.due("30: first", c.beside(2, 0, 0, 0, 0, 0), RainCover.NONE);
    Check.due("30: second", c.beside(0, 2, 0, 0, 0, 0), RainCover.NONE);
    Check.due("30: gauge", c.beside(0, 0, 1, 0, 0, 0), RainCover.NONE);
    Check.due("30: plant", c.beside(0, 0, 0, 6, 0, 0), RainCover.NONE);
    Check.due("30: crop", c.beside(0, 0, 0, 0, 4, 0), RainCover.NONE);
    Check.due("30: what", c.beside(0, 0, 0, 0, 0, 4), RainCover.NONE);
    Check.due("30: what", c.beside(0, 0, 0, 0, 0, -1), RainCover.NONE);
    c.gauge(99, 99, 0);
    for (int what = 0; what < 4; what++) Check.due("30: nothing known", c.beside(0, 1, 1, 0, 0, what), 0);
  }

  private static void foretold() {
    RainCover c = threeKnown();
    Check.due("31: least", c.foretold(0, 0, 2, 0, 0, 0, 0), 20);
    Check.due("31: greatest", c.foretold(0, 0, 2, 0, 0, 0, 1), 90);
    Check.due("31: sum", c.foretold(0, 0, 2, 0, 0, 0, 2), 180);
    Check.due("31: how many", c.foretold(0, 0, 2, 0, 0, 0, 3), 3);
    Check.due("31: not itself", c.foretold(0, 0, 6, 0, 0, 0, 3), 2);
    Check.due("31: not itself", c.foretold(0, 0, 6, 0, 0, 0, 0), 70);
    Check.even(c, 0, 0, 95);
    Check.due("31: with season 0", c.foretold(0, 0, 2, 0, 0, 0, 3), 4);
    Check.due("31: the least came first", c.foretold(0, 0, 2, 0, 0, 0, 0), 5);
    Check.even(c, 0, 0, -1);
    c.rain(0, 2, 0, 45);
    for (int what = 0; what < 2; what++) Check.due("31: as it is", c.foretold(0, 0, 2, 1, 0, 0, what), 55);
    Check.due("31: week 12", c.foretold(0, 0, 2, 12, 0, 0, 2), 165);
    Check.due("31: week 13", c.foretold(0, 0, 2, 13, 0, 0, 2), RainCover.NONE);
    Check.due("31: week", c.foretold(0, 0, 2, -1, 0, 0, 2), RainCover.NONE);
    Check.due("31: term", c.foretold(1, 0, 2, 0, 0, 0, 0), RainCover.NONE);
    Check.due("31: gauge", c.foretold(0, 1, 2, 0, 0, 0, 0), RainCover.NONE);
    Check.due("31: season", c.foretold(0, 0, 16, 0, 0, 0, 0), RainCover.NONE);
    Check.due("31: plant", c.foretold(0, 0, 2, 0, 6, 0, 0), RainCover.NONE);
    Check.due("31: crop", c.foretold(0, 0, 2, 0, 0, 4, 0), RainCover.NONE);
    Check.due("31: what", c.foretold(0, 0, 2, 0, 0, 0, 4), RainCover.NONE);
    Check.due("31: what", c.foretold(0, 0, 2, 0, 0, 0, -1), RainCover.NONE);
    c.gauge(99, 99, 0);
    for (int what = 0; what < 4; what++) Check.due("31: none such", c.foretold(0, 1, 2, 0, 0, 0, what), 0);
  }

  private static void foretoldByGreenAndPlant() {
    RainCover c = new RainCover();
    c.gauge(30, 0, 0);
    Check.term(c, "pay 5 if green 0 to 3 > 40");
    Check.term(c, "rate 1 per 1 below 1000 of sum 0 to 1 max 1000");
    Check.even(c, 0, 1, 10);
    Check.even(c, 0, 2, 100);
    c.green(0, 0, 0, 99);
    c.green(1, 1, 3, 50);
    Check.due("31: green of s", c.foretold(0, 0, 0, 3, 0, 0, 2), 5);
    Check.due("31: green ahead as it is", c.foretold(0, 0, 0, 4, 0, 0, 2), 0);
    c.green(1, 0, 2, 60);
    Check.due("31: green ahead as it is", c.foretold(0, 0, 0, 3, 0, 0, 2), 10);
    Check.due("31: from that week on the other's", c.foretold(0, 0, 0, 2, 0, 0, 2), 5);
    c.rain(0, 0, 2, 7);
    // SEASON 0 is filled with 55 in all other weeks
    Check.due("31: planted 2 later", c.foretold(1, 0, 0, 3, 2, 0, 2), 1000 - 17 + 1000 - 107);
    Check.due("31: planted 1 later", c.foretold(1, 0, 0, 3, 1, 0, 2), 2 * (1000 - 62));
    Check.due("31: least", c.foretold(1, 0, 0, 3, 2, 0, 0), 893);
    Check.due("31: greatest", c.foretold(1, 0, 0, 3, 2, 0, 1), 983);
  }

  /** Two GAUGES, two FARMS of AREA 2 and 3, PAY 40 and 70 in SEASON 0, 10 and 0 in SEASON 1. */
  private static RainCover twoFarms() {
    RainCover c = new RainCover();
    c.law(0, 0);
    c.gauge(0, 0, 0);
    c.gauge(90, 0, 0);
    Check.term(c, BELOW_100);
    Check.even(c, 0, 0, 60);
    Check.even(c, 1, 0, 30);
    Check.even(c, 0, 1, 90);
    Check.even(c, 1, 1, 100);
    c.farm(0, 0, 0, 2);
    c.farm(90, 0, 0, 3);
    c.farm(45, 0, 0, 99);
    c.enroll(0, 0, 2);
    c.enroll(1, 0, 3);
    return c;
  }

  private static void incomeAndTotals() {
    RainCover c = twoFarms();
    Check.due("32: none covered", c.income(0), 0);
    Check.due("32: one", c.income(2), 2 * 30);
    Check.due("32: two", c.income(3), 2 * 30 + 3 * 42);
    c.law(2, 0);
    Check.due("32: load", c.income(3), 2 * 25 + 3 * 35);
    c.law(3, 50);
    Check.due("32: subsidy does not matter", c.income(3), 2 * 25 + 3 * 35);
    Check.due("32: season", c.income(16), RainCover.NONE);
    Check.due("32: season", c.income(-1), RainCover.NONE);
    Check.due("33: none covered", c.total(0, 1), 0);
    Check.due("33: one", c.total(0, 2), 80);
    Check.due("33: two", c.total(0, 3), 80 + 210);
    Check.due("33: two", c.total(1, 3), 20);
    Check.due("33: s", c.total(16, 0), RainCover.NONE);
    Check.due("33: q", c.total(0, -1), RainCover.NONE);
    c.down(1, 3);
    Check.due("33: the gauge in q", c.total(0, 3), 80 + 120);
    Check.due("32: the gauge in q", c.income(3), 5 * 25);
    c.plant(3, 5);
    c.rain(0, 0, 5, 0);
    Check.due("33: the farm's plant", c.total(0, 3), 80 + 300);
    c.down(0, 3);
    Check.due("33: no gauge", c.total(0, 3), 0);
    Check.due("32: no gauge", c.income(3), 0);
  }

  private static void layers() {
    RainCover c = twoFarms();
    int[][] due = {{0, 0, 0}, {0, 290, 290}, {0, 291, 290}, {0, 289, 289}, {100, 200, 100}, {200, 300, 90},
      {290, 2000000000, 0}, {289, 2000000000, 1}, {2000000000, 2000000000, 0}};
    for (int[] d : due) Check.due("34: " + d[0] + " to " + d[1], c.layer(0, 3, d[0], d[1]), d[2]);
    Check.due("34: s", c.layer(16, 0, -1, 0), RainCover.NONE);
    Check.due("34: q", c.layer(0, -1, -1, 0), RainCover.NONE);
    Check.due("34: a", c.layer(0, 3, -1, 0), RainCover.BAD);
    Check.due("34: a above b", c.layer(0, 3, 2, 1), RainCover.BAD);
    Check.due("34: b", c.layer(0, 3, 0, 2000000001), RainCover.BAD);
    Check.due("34: both", c.layer(0, 3, 2000000001, 2000000001), RainCover.BAD);
  }

  private static void years() {
    RainCover c = new RainCover();
    Check.due("36: no gauge", c.lasts(0, 0, 1, 1), RainCover.STATE);
    c.gauge(0, 0, 2);
    c.gauge(0, 0, 5);
    Check.due("36: nothing known", c.lasts(0, 2, 1, 1), RainCover.STATE);
    Check.even(c, 0, 0, 5);
    Check.due("36: no gauge stands", c.lasts(0, 1, 1, 1), RainCover.STATE);
    Check.due("36: known of all that stand", c.lasts(0, 2, 1, 1), 1);
    Check.due("36: not known of all", c.lasts(0, 5, 1, 1), RainCover.STATE);
    Check.even(c, 1, 1, 5);
    Check.due("36: no season known of both", c.lasts(0, 5, 1, 1), RainCover.STATE);
    Check.even(c, 1, 0, 5);
    Check.due("36: one", c.lasts(0, 5, 40, 40), 40);
    Check.due("36: q", c.lasts(-1, 16, 0, 0), RainCover.NONE);
    Check.due("36: q", c.lasts(0, -1, 1, 1), RainCover.NONE);
    Check.due("36: reserve", c.lasts(-1, 1, 1, 1), RainCover.BAD);
    Check.due("36: reserve", c.lasts(2000000001, 1, 1, 1), RainCover.BAD);
    Check.due("36: n", c.lasts(0, 1, 0, 1), RainCover.BAD);
    Check.due("36: n", c.lasts(0, 1, 41, 1), RainCover.BAD);
    Check.due("36: m", c.lasts(0, 1, 1, 0), RainCover.BAD);
    Check.due("36: m", c.lasts(0, 1, 1, 41), RainCover.BAD);
  }

  private static void reserve() {
    RainCover c = twoFarms();
    c.law(2, 0);
    int income = 2 * 25 + 3 * 35;
    int[] leaves = {income - 290, income - 20};
    int[] z = {1};
    int[][] asked = {{0, 1, 40}, {100, 5, 40}, {135, 1, 9}, {134, 1, 9}, {300, 40, 40}, {1000, 40, 40}};
    for (int[] a : asked) {
      Check.due("36: reserve " + a[0], c.lasts(a[0], 3, a[1], a[2]), Check.lasting(z, a[0], leaves, a[1], a[2]));
    }
    int[] told = {0, 7, -1, Integer.MIN_VALUE, 123456789};
    for (int first : told) {
      Check.due("35: told", c.lots(first), 1);
      z[0] = first;
      Check.due("36: from " + first, c.lasts(200, 3, 7, 33), Check.lasting(z, 200, leaves, 7, 33));
    }
    z[0] = 5;
    c.lots(5);
    c.lasts(0, 16, 1, 1);
    c.lasts(0, 3, 41, 1);
    Check.due("36: what is refused throws nothing", c.lasts(150, 3, 3, 40), Check.lasting(z, 150, leaves, 3, 40));
  }

  private static void greatReserve() {
    RainCover c = new RainCover();
    c.gauge(0, 0, 0);
    Check.even(c, 0, 0, 0);
    c.law(2, 300);
    Check.term(c, "pay 9999 if week 0 < 1");
    for (int f = 0; f < 24; f++) {
      c.farm(0, 0, 0, 99);
      c.enroll(f, 0, 0);
    }
    Check.due("32: the greatest", c.income(0), 24 * 99 * 9999 * 4);
    Check.due("33: the greatest", c.total(0, 0), 24 * 99 * 9999);
    Check.due("36: above what an int holds", c.lasts(2000000000, 0, 40, 40), 40);
    c.law(2, 0);
    Check.due("36: 0 lasts", c.lasts(0, 0, 40, 40), 40);
  }
}
