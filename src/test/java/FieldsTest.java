/** Promises 23 to 26: fields looked at, the basis, sites. */
public final class FieldsTest {
  public static void main(String[] args) {
    looks();
    basis();
    basisByBands();
    sites();
    bestSets();
    bestWithoutGauges();
    bestOfSeveral();
    Check.end();
  }

  private static void looks() {
    RainCover c = new RainCover();
    for (int farm = 0; farm < 6; farm++) c.farm(0, 0, 0, 1);
    Check.due("23: farm", c.look(6, 0, -1, 0), RainCover.NONE);
    Check.due("23: season", c.look(0, 16, -1, 0), RainCover.NONE);
    Check.due("23: loss", c.look(0, 0, 10000, 0), RainCover.BAD);
    Check.due("23: loss", c.look(0, 0, -1, 0), RainCover.BAD);
    Check.due("23: doubt", c.look(0, 0, 0, 10000), RainCover.BAD);
    Check.due("23: doubt", c.look(0, 0, 0, -1), RainCover.BAD);
    Check.due("23: none yet", c.count(5), 0);
    Check.due("23: one", c.look(0, 0, 9999, 9999), 1);
    Check.due("23: the same one", c.look(0, 0, 0, 0), 1);
    Check.due("23: another season", c.look(0, 1, 0, 0), 2);
    int n = 2;
    for (int i = 2; i < 80; i++) Check.due("23: row", c.look(i / 16, i % 16, 1, 1), ++n);
    Check.due("23: full", c.look(5, 0, 1, 1), RainCover.FULL);
    Check.due("23: not for one that is there", c.look(4, 15, 5, 5), 80);
    Check.due("23: bad ahead of full", c.look(5, 0, -1, 1), RainCover.BAD);
  }

  private static void basis() {
    RainCover c = new RainCover();
    c.gauge(0, 0, 0);
    Check.term(c, "pay 40 if week 0 < 10");
    Check.term(c, "pay 40 if week 0 > 10");
    c.farm(0, 0, 0, 9);
    Check.due("24: nothing", c.basis(0, 0, 0), RainCover.NO);
    c.look(0, 0, 30, 4);
    Check.due("24: above it", c.basis(0, 0, 0), 6);
    Check.due("24: by 1", c.basis(0, 0, 1), 1);
    Check.due("24: below it, by a term that does not cover", c.basis(1, 0, 0), 26);
    c.look(0, 1, 47, 7);
    Check.due("24: 0 at least", c.basis(0, 0, 0), 3);
    Check.due("24: by 1", c.basis(0, 0, 1), 1);
    c.look(0, 2, 100, 99);
    Check.due("24: of three", c.basis(0, 0, 0), 2);
    c.look(0, 2, 101, 60);
    Check.due("24: the latest counts", c.basis(0, 0, 0), 7);
    Check.due("24: below the line", c.basis(0, 0, 1), 3);
    c.rain(0, 2, 0, 90);
    Check.due("24: as known now, filled by that season", c.basis(0, 0, 0), 26 + 40 + 41);
    for (int s = 0; s < 3; s++) c.look(0, s, 0, 9999);
    Check.due("24: 0", c.basis(0, 0, 0), 0);
    Check.due("24: 0 by 1", c.basis(0, 0, 1), 1);
    Check.due("24: term", c.basis(2, 0, 0), RainCover.NO);
    Check.due("24: term", c.basis(-1, 0, 0), RainCover.NO);
    Check.due("24: band", c.basis(0, 4, 0), RainCover.NO);
    Check.due("24: band", c.basis(0, -1, 0), RainCover.NO);
    Check.due("24: part", c.basis(0, 0, 2), RainCover.NO);
    Check.due("24: part", c.basis(0, 0, -1), RainCover.NO);
    c.down(0, 1);
    c.look(0, 0, 50, 0);
    Check.due("24: without a gauge in none", c.basis(0, 0, 0), 50);
    Check.due("24: without a gauge in none", c.basis(0, 0, 1), 1);
  }

  private static void basisByBands() {
    RainCover c = new RainCover();
    c.gauge(0, 0, 0);
    Check.term(c, "pay 40 if week 0 > 0");
    int[] x = {19, 20, 39, 40, 59, 60, 99};
    for (int farm = 0; farm < x.length; farm++) {
      c.farm(x[farm], 0, 0, 1);
      c.look(farm, 0, 1 << farm, 0);
    }
    long[] above = {1, (2 + 4) / 2, (8 + 16) / 2, (32 + 64) / 2};
    for (int band = 0; band < 4; band++) {
      Check.due("24: band " + band, c.basis(0, band, 0), above[band]);
      Check.due("24: band " + band, c.basis(0, band, 1), 1);
    }
  }

  private static void sites() {
    RainCover c = new RainCover();
    Check.due("25: x", c.site(100, 0), RainCover.BAD);
    Check.due("25: y", c.site(0, -1), RainCover.BAD);
    for (int i = 0; i < 8; i++) Check.due("25: number", c.site(99, 99), i);
    Check.due("25: full", c.site(0, 0), RainCover.FULL);
    Check.due("25: bad ahead of full", c.site(0, 100), RainCover.BAD);
    Check.due("25: count", c.count(6), 8);
  }

  private static void bestSets() {
    RainCover c = new RainCover();
    c.gauge(0, 0, 15);
    c.gauge(90, 90, 0);
    c.down(1, 15);
    c.farm(10, 0, 0, 2);
    c.farm(80, 80, 0, 1);
    c.farm(50, 0, 0, 3);
    c.site(80, 80);
    c.site(50, 0);
    c.site(12, 0);
    Check.due("26: by gauges of season 15 alone", c.best(0, 0), 20 + 160 + 150);
    Check.due("26: no site in it", c.best(0, 1), RainCover.NONE);
    Check.due("26: one", c.best(1, 0), 20 + 110);
    Check.due("26: the one", c.best(1, 1), 1);
    Check.due("26: no second", c.best(1, 2), RainCover.NONE);
    Check.due("26: two", c.best(2, 0), 20);
    Check.due("26: rising", c.best(2, 1), 0);
    Check.due("26: rising", c.best(2, 2), 1);
    Check.due("26: three", c.best(3, 0), 4);
    Check.due("26: rising", c.best(3, 3), 2);
    Check.due("26: no fourth", c.best(3, 4), RainCover.NONE);
    Check.due("26: above how many there are", c.best(4, 0), -5);
    Check.due("26: what", c.best(1, 5), -5);
    Check.due("26: what", c.best(1, -1), -5);
    Check.due("26: n", c.best(-1, 0), -5);
    for (int i = 0; i < 5; i++) c.site(0, 99);
    Check.due("26: n", c.best(5, 0), -5);
  }

  private static void bestWithoutGauges() {
    RainCover c = new RainCover();
    Check.due("26: nothing at all", c.best(0, 0), 0);
    c.farm(0, 0, 0, 99);
    Check.due("26: 0 if there are none", c.best(0, 0), 0);
    c.site(99, 99);
    Check.due("26: 0 if there are none", c.best(0, 0), 0);
    Check.due("26: one", c.best(1, 0), 99 * 198);
  }

  private static void bestOfSeveral() {
    RainCover c = new RainCover();
    c.farm(0, 0, 0, 1);
    for (int i = 0; i < 8; i++) c.site(50, i == 5 ? 0 : 9);
    Check.due("26: the best one", c.best(1, 1), 5);
    int[] four = {0, 1, 2, 5};
    for (int i = 0; i < 4; i++) Check.due("26: with the lesser sites", c.best(4, i + 1), four[i]);
    Check.due("26: two", c.best(2, 1), 0);
    Check.due("26: two", c.best(2, 2), 5);
    c.farm(50, 4, 0, 9);
    c.farm(50, 4, 0, 9);
    Check.due("26: the best one for all", c.best(1, 1), 5);
  }
}
