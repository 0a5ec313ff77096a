/** Promises 16 to 22: farms, planting, covers, what is due, the line. */
public final class FarmsTest {
  private static final String BELOW_100 = "rate 1 per 1 below 100 of sum 0 to 0 max 100";

  public static void main(String[] args) {
    farms();
    planting();
    covers();
    lapses();
    fullOfCovers();
    ofAFarm();
    dues();
    lines();
    linesByTermAndGauge();
    Check.end();
  }

  private static void farms() {
    RainCover c = new RainCover();
    Check.due("16: x", c.farm(100, 0, 0, 1), RainCover.BAD);
    Check.due("16: y", c.farm(0, -1, 0, 1), RainCover.BAD);
    Check.due("16: crop", c.farm(0, 0, 4, 1), RainCover.BAD);
    Check.due("16: crop", c.farm(0, 0, -1, 1), RainCover.BAD);
    Check.due("16: area", c.farm(0, 0, 0, 0), RainCover.BAD);
    Check.due("16: area", c.farm(0, 0, 0, 100), RainCover.BAD);
    for (int i = 0; i < 24; i++) Check.due("16: number", c.farm(99, 99, i % 4, 99), i);
    Check.due("16: full", c.farm(0, 0, 0, 1), RainCover.FULL);
    Check.due("16: bad ahead of full", c.farm(0, 0, 0, 0), RainCover.BAD);
    Check.due("16: count", c.count(3), 24);
  }

  private static void planting() {
    RainCover c = new RainCover();
    Check.due("17: first", c.plant(1, 5), 0);
    Check.due("17: was", c.plant(1, 2), 5);
    Check.due("17: another", c.plant(0, 0), 0);
    Check.due("17: district", c.plant(4, 9), RainCover.NONE);
    Check.due("17: district", c.plant(-1, 0), RainCover.NONE);
    Check.due("17: p", c.plant(3, 6), RainCover.BAD);
    Check.due("17: p", c.plant(3, -1), RainCover.BAD);
    Check.due("17: unchanged", c.plant(3, 1), 0);
  }

  private static void covers() {
    RainCover c = new RainCover();
    Check.term(c, BELOW_100);
    Check.term(c, "pay 7 if week 0 < 100");
    c.farm(0, 0, 0, 1);
    Check.due("18: farm", c.enroll(1, 0, 0), RainCover.NONE);
    Check.due("18: term", c.enroll(0, 2, 0), RainCover.NONE);
    Check.due("18: season", c.enroll(0, 0, 16), RainCover.NONE);
    Check.due("18: season", c.enroll(0, 0, -1), RainCover.NONE);
    Check.due("18: covered", c.enroll(0, 0, 4), 1);
    Check.due("18: not yet", c.of(0, 3, 1), -1);
    Check.due("18: from then on", c.of(0, 4, 1), 0);
    Check.due("18: to the end", c.of(0, 15, 1), 0);
    Check.due("18: in that one", c.enroll(0, 1, 4), RainCover.STATE);
    Check.due("18: in a later one", c.enroll(0, 1, 0), RainCover.STATE);
    c.lapse(0, 6);
    Check.due("18: still in that one", c.enroll(0, 1, 5), RainCover.STATE);
    Check.due("18: behind it", c.enroll(0, 1, 6), 1);
    Check.due("18: the first term", c.of(0, 5, 1), 0);
    Check.due("18: the second term", c.of(0, 6, 1), 1);
    Check.due("18: count", c.count(4), 2);
    c.farm(0, 0, 0, 1);
    c.enroll(1, 0, 5);
    c.lapse(1, 5);
    Check.due("18: a cover of no season does not count", c.enroll(1, 1, 0), 1);
    Check.due("18: it does not end the new one", c.of(1, 5, 1), 1);
  }

  private static void lapses() {
    RainCover c = new RainCover();
    Check.term(c, BELOW_100);
    c.farm(0, 0, 0, 1);
    Check.due("19: not covered", c.lapse(0, 0), RainCover.STATE);
    c.enroll(0, 0, 2);
    Check.due("19: ahead of it", c.lapse(0, 1), RainCover.STATE);
    Check.due("19: the last one", c.lapse(0, 15), 1);
    Check.due("19: not any more", c.lapse(0, 15), RainCover.STATE);
    Check.due("19: to the lapse", c.lapse(0, 5), 10);
    Check.due("19: covered ahead", c.of(0, 4, 1), 0);
    Check.due("19: not covered then", c.of(0, 5, 1), -1);
    c.enroll(0, 0, 8);
    Check.due("19: the earlier one alone", c.lapse(0, 3), 2);
    Check.due("19: the later one stands", c.of(0, 8, 1), 0);
    Check.due("19: farm", c.lapse(1, 0), RainCover.NONE);
    Check.due("19: season", c.lapse(0, 16), RainCover.NONE);
    Check.due("19: season", c.lapse(0, -1), RainCover.NONE);
  }

  private static void fullOfCovers() {
    RainCover c = new RainCover();
    Check.term(c, BELOW_100);
    for (int farm = 0; farm < 4; farm++) {
      c.farm(0, 0, 0, 1);
      for (int season = 0; season < 15; season++) {
        Check.due("18: room", c.enroll(farm, 0, season), 1);
        Check.due("19: one less", c.lapse(farm, season + 1), 15 - season);
      }
    }
    Check.due("18: full", c.enroll(0, 0, 15), RainCover.FULL);
    Check.due("18: state ahead of full", c.enroll(0, 0, 14), RainCover.STATE);
    Check.due("18: none ahead of full", c.enroll(4, 0, 0), RainCover.NONE);
    Check.due("18: count", c.count(4), 60);
  }

  private static void ofAFarm() {
    RainCover c = new RainCover();
    c.gauge(10, 10, 0);
    c.gauge(20, 20, 0);
    c.gauge(16, 15, 4);
    Check.term(c, BELOW_100);
    c.farm(15, 15, 0, 3);
    c.farm(99, 0, 0, 1);
    c.rain(0, 0, 0, 60);
    c.rain(2, 4, 0, 30);
    Check.due("20: of several the least number", c.of(0, 0, 0), 0);
    Check.due("20: the nearest", c.of(0, 4, 0), 2);
    Check.due("20: not covered", c.of(0, 0, 1), -1);
    Check.due("20: pay without a cover", c.of(0, 0, 3), -1);
    c.enroll(0, 0, 0);
    Check.due("20: term", c.of(0, 0, 1), 0);
    Check.due("20: distance", c.of(0, 0, 2), 10);
    Check.due("20: distance then", c.of(0, 4, 2), 1);
    Check.due("20: pay", c.of(0, 0, 3), 40);
    Check.due("20: pay then", c.of(0, 4, 3), 70);
    Check.due("20: district", c.of(0, 0, 4), 0);
    Check.due("20: district", c.of(1, 0, 4), 3);
    Check.due("20: nothing settled", c.of(0, 0, 5), 0);
    c.settle(0);
    Check.due("20: settled", c.of(0, 0, 5), 120);
    Check.due("20: of another season", c.of(0, 4, 5), 0);
    for (int g = 0; g < 3; g++) c.down(g, 9);
    Check.due("20: no gauge", c.of(0, 9, 0), -1);
    Check.due("20: no distance", c.of(0, 9, 2), -1);
    Check.due("20: no gauge pays 0", c.of(0, 9, 3), 0);
    c.gauge(0, 99, 14);
    Check.due("20: farthest", c.of(1, 14, 0), 3);
    Check.due("20: farthest", c.of(1, 14, 2), 198);
    Check.due("20: farm", c.of(2, 0, 0), -5);
    Check.due("20: season", c.of(0, 16, 0), -5);
    Check.due("20: what", c.of(0, 0, 6), -5);
    Check.due("20: what", c.of(0, 0, -1), -5);
  }

  private static void dues() {
    RainCover c = new RainCover();
    c.gauge(0, 0, 0);
    Check.term(c, BELOW_100);
    Check.term(c, "pay 2 if green 0 to 0 > 5");
    c.farm(30, 0, 0, 5);
    c.farm(0, 0, 0, 9);
    Check.due("21: not covered", c.due(0, 0, 9), 0);
    c.enroll(0, 0, 0);
    c.enroll(1, 1, 0);
    c.rain(0, 0, 0, 40);
    c.rain(0, 0, 0, 50);
    c.rain(0, 0, 1, 90);
    c.green(0, 0, 0, 6);
    int[] due = {500, 300, 250, 250, 250};
    int[] green = {0, 0, 0, 0, 18};
    for (int k = 0; k < due.length; k++) {
      Check.due("21: at " + k, c.due(0, 0, k), due[k]);
      Check.due("21: green at " + k, c.due(1, 0, k), green[k]);
    }
    c.plant(1, 1);
    Check.due("21: planted a week later", c.due(0, 0, 9), 50);
    c.plant(0, 2);
    Check.due("21: another district", c.due(0, 0, 9), 50);
    c.down(0, 0);
    Check.due("21: no gauge", c.due(0, 0, 9), 0);
    Check.due("21: k", c.due(0, 0, -1), -5);
    Check.due("21: farm", c.due(2, 0, 0), -5);
    Check.due("21: season", c.due(0, -1, 0), -5);
  }

  private static void lines() {
    RainCover c = new RainCover();
    c.gauge(0, 0, 0);
    c.gauge(50, 0, 0);
    Check.term(c, BELOW_100);
    c.rain(0, 0, 0, 10);
    c.rain(1, 0, 0, 20);
    int[] x = {60, 20, 24, 26, 30};
    for (int farm = 0; farm < 5; farm++) {
      c.farm(x[farm], 0, 0, 1);
      c.enroll(farm, 0, 0);
    }
    Check.due("22: none", c.line(0, 1, 0), 0);
    Check.due("22: none", c.line(0, 1, 1), RainCover.NONE);
    Check.due("22: none", c.line(0, 1, 2), RainCover.NONE);
    Check.due("22: one", c.line(0, 2, 0), 1);
    Check.due("22: the lesser", c.line(0, 2, 1), 2);
    Check.due("22: the greater", c.line(0, 2, 2), 3);
    Check.due("22: three", c.line(0, 6, 0), 3);
    Check.due("22: the first one", c.line(0, 6, 1), 1);
    Check.due("22: the first one", c.line(0, 6, 2), 3);
    Check.due("22: all", c.line(0, 198, 0), 6);
    Check.due("22: by the lesser, then the greater", c.line(0, 198, 1), 0);
    Check.due("22: by the lesser, then the greater", c.line(0, 198, 2), 1);
    c.rain(1, 0, 0, 10);
    Check.due("22: like pay", c.line(0, 198, 0), 0);
    Check.due("22: season", c.line(16, 199, 0), RainCover.NONE);
    Check.due("22: what", c.line(0, 199, 3), RainCover.NONE);
    Check.due("22: what", c.line(0, 0, -1), RainCover.NONE);
    Check.due("22: d", c.line(0, 199, 0), RainCover.BAD);
    Check.due("22: d", c.line(0, -1, 0), RainCover.BAD);
    Check.due("22: d 0", c.line(0, 0, 0), 0);
  }

  private static void linesByTermAndGauge() {
    RainCover c = new RainCover();
    c.gauge(0, 0, 0);
    c.gauge(50, 0, 0);
    Check.term(c, BELOW_100);
    Check.term(c, "pay 5 if dry 0 to 0 > 0");
    c.rain(0, 0, 0, 70);
    c.rain(1, 0, 0, 90);
    c.farm(20, 0, 0, 1);
    c.farm(30, 0, 0, 1);
    c.farm(10, 0, 3, 1);
    c.enroll(0, 0, 0);
    c.enroll(1, 1, 0);
    Check.due("22: unlike terms", c.line(0, 198, 0), 0);
    c.lapse(1, 0);
    Check.due("22: not covered", c.line(0, 198, 0), 0);
    c.enroll(1, 0, 0);
    Check.due("22: one term", c.line(0, 198, 0), 1);
    c.lapse(0, 0);
    c.enroll(0, 1, 0);
    c.enroll(2, 1, 0);
    Check.due("22: unlike pay by one gauge", c.line(0, 198, 0), 0);
    c.lapse(1, 0);
    c.enroll(1, 1, 0);
    Check.due("22: unlike gauges", c.line(0, 198, 0), 1);
    Check.due("22: the lesser", c.line(0, 198, 1), 1);
    Check.due("22: the greater", c.line(0, 198, 2), 2);
  }
}
