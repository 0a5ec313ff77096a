/** Promises 1 to 12: a new object, gauges, laws, tellings, filling, spans. */
public final class RainTest {
  public static void main(String[] args) {
    newObject();
    gauges();
    laws();
    tellings();
    greens();
    knownAt();
    laidSheets();
    filling();
    fillingByNearest();
    spansAndOdds();
    fullOfTellings();
    Check.end();
  }

  private static void newObject() {
    RainCover c = new RainCover();
    for (int what = 0; what < 12; what++) Check.due("1: count(" + what + ")", c.count(what), 0);
    Check.due("1: count(12)", c.count(12), RainCover.BAD);
    Check.due("1: count(-1)", c.count(-1), RainCover.BAD);
    Check.due("1: trace", c.trace(0), RainCover.NONE);
    Check.due("1: NO", RainCover.NO, Long.MIN_VALUE);
  }

  private static void gauges() {
    RainCover c = new RainCover();
    Check.due("2: x", c.gauge(100, 0, 99), RainCover.BAD);
    Check.due("2: y", c.gauge(0, -1, 0), RainCover.BAD);
    Check.due("2: season", c.gauge(0, 0, 16), RainCover.NONE);
    Check.due("2: season", c.gauge(0, 0, -1), RainCover.NONE);
    for (int i = 0; i < 8; i++) Check.due("2: number", c.gauge(99, 99, 15), i);
    Check.due("2: full", c.gauge(0, 0, 0), RainCover.FULL);
    Check.due("2: bad ahead of full", c.gauge(-1, 0, 0), RainCover.BAD);
    Check.due("2: none ahead of full", c.gauge(0, 0, 16), RainCover.NONE);
    Check.due("2: count", c.count(0), 8);

    RainCover d = new RainCover();
    d.gauge(0, 0, 3);
    d.farm(0, 0, 0, 1);
    Check.due("2: not yet", d.of(0, 2, 0), -1);
    Check.due("2: from then on", d.of(0, 3, 0), 0);
    Check.due("2: to the end", d.of(0, 15, 0), 0);
    Check.due("3: down", d.down(0, 5), 1);
    Check.due("3: still there", d.of(0, 4, 0), 0);
    Check.due("3: gone", d.of(0, 5, 0), -1);
    Check.due("3: again", d.down(0, 16), 1);
    Check.due("3: to the end", d.of(0, 15, 0), 0);
    Check.due("3: ahead of its first", d.down(0, 0), 1);
    Check.due("3: never", d.of(0, 3, 0), -1);
    Check.due("3: gauge", d.down(1, 0), RainCover.NONE);
    Check.due("3: gauge", d.down(-1, 0), RainCover.NONE);
    Check.due("3: season", d.down(0, 17), RainCover.NONE);
    Check.due("3: season", d.down(0, -1), RainCover.NONE);
  }

  private static void laws() {
    RainCover c = new RainCover();
    int[] first = {40, 500, 20, 0};
    int[] most = {198, 9999, 300, 100};
    for (int what = 0; what < 4; what++) {
      Check.due("4: most", c.law(what, most[what]), first[what]);
      Check.due("4: above", c.law(what, most[what] + 1), RainCover.BAD);
      Check.due("4: below", c.law(what, -1), RainCover.BAD);
      Check.due("4: least", c.law(what, 0), most[what]);
      Check.due("4: was", c.law(what, 1), 0);
    }
    Check.due("4: what", c.law(4, -1), RainCover.NONE);
    Check.due("4: what", c.law(-1, 0), RainCover.NONE);
  }

  private static void tellings() {
    RainCover c = new RainCover();
    c.gauge(0, 0, 5);
    Check.due("5: first, ahead of its standing", c.rain(0, 0, 0, 0), 1);
    Check.due("5: most", c.rain(0, 15, 11, 9999), 2);
    Check.due("5: gap", c.rain(0, 0, 0, -1), 3);
    Check.due("5: gauge", c.rain(1, 0, 0, -9), RainCover.NONE);
    Check.due("5: season", c.rain(0, 16, 0, 0), RainCover.NONE);
    Check.due("5: season", c.rain(0, -1, 0, 0), RainCover.NONE);
    Check.due("5: week", c.rain(0, 0, 12, 0), RainCover.NONE);
    Check.due("5: week", c.rain(0, 0, -1, 0), RainCover.NONE);
    Check.due("5: above", c.rain(0, 0, 0, 10000), RainCover.BAD);
    Check.due("5: below", c.rain(0, 0, 0, -2), RainCover.BAD);
    Check.due("5: count", c.count(1), 3);
  }

  private static void greens() {
    RainCover c = new RainCover();
    Check.due("6: first", c.green(0, 0, 0, 0), 1);
    Check.due("6: most", c.green(3, 15, 11, 100), 2);
    Check.due("6: gap", c.green(0, 0, 0, -1), 3);
    Check.due("6: district", c.green(4, 0, 0, 0), RainCover.NONE);
    Check.due("6: district", c.green(-1, 0, 0, 0), RainCover.NONE);
    Check.due("6: season", c.green(0, 16, 0, 0), RainCover.NONE);
    Check.due("6: week", c.green(0, 0, 12, 999), RainCover.NONE);
    Check.due("6: above", c.green(0, 0, 0, 101), RainCover.BAD);
    Check.due("6: below", c.green(0, 0, 0, -2), RainCover.BAD);
    Check.due("7: none yet", c.seen(0, 0, 0, 0), -1);
    Check.due("7: at 1", c.seen(0, 0, 0, 1), 0);
    Check.due("7: at 2", c.seen(0, 0, 0, 2), 0);
    Check.due("7: at 3", c.seen(0, 0, 0, 3), -1);
    Check.due("7: far on", c.seen(3, 15, 11, Integer.MAX_VALUE), 100);
    Check.due("7: another week", c.seen(3, 15, 10, 9), -1);
    Check.due("7: k", c.seen(0, 0, 0, -1), -5);
    Check.due("7: district", c.seen(4, 0, 0, 0), -5);
    Check.due("7: season", c.seen(0, 16, 0, 0), -5);
    Check.due("7: week", c.seen(0, 0, 12, 0), -5);
  }

  private static void knownAt() {
    RainCover c = new RainCover();
    c.gauge(0, 0, 0);
    c.rain(0, 1, 2, 30);
    c.green(0, 1, 2, 7);
    c.rain(0, 1, 2, -1);
    c.rain(0, 1, 2, 50);
    int[] due = {-1, 30, 30, -1, 50, 50};
    for (int k = 0; k < due.length; k++) Check.due("9: at " + k, c.told(0, 1, 2, k), due[k]);
    Check.due("9: another season", c.told(0, 2, 2, 9), -1);
    Check.due("9: gauge", c.told(1, 1, 2, 0), -5);
    Check.due("9: season", c.told(0, 16, 2, 0), -5);
    Check.due("9: week", c.told(0, 1, 12, 0), -5);
    Check.due("9: k", c.told(0, 1, 2, -1), -5);
  }

  private static void laidSheets() {
    RainCover c = new RainCover();
    c.gauge(0, 0, 0);
    c.sheet(0, 2, 14);
    c.sheet(1, 0, 12);
    c.cell(0, 2, 9999);
    c.cell(0, 3, 10000);
    c.cell(0, 4, -5);
    c.cell(0, 13, 77);
    Check.due("8: gauge ahead of sheet", c.lay(1, 0, 9, 9, 0), RainCover.NONE);
    Check.due("8: season", c.lay(0, 16, 0, 2, 0), RainCover.NONE);
    Check.due("8: sheet", c.lay(0, 0, 3, 2, 0), RainCover.BAD);
    Check.due("8: sheet", c.lay(0, 0, -1, 2, 0), RainCover.BAD);
    Check.due("8: sort", c.lay(0, 0, 0, 3, 0), RainCover.BAD);
    Check.due("8: sort", c.lay(0, 0, 0, -1, 0), RainCover.BAD);
    Check.due("8: another sort", c.lay(0, 0, 0, 1, 99), -13);
    Check.due("8: missing", c.lay(0, 0, 2, 1, 99), -11);
    Check.due("8: too short", c.lay(0, 0, 0, 2, 3), -12);
    Check.due("8: below", c.lay(0, 0, 0, 2, -1), -12);
    Check.due("8: far beyond", c.lay(0, 0, 0, 2, Integer.MAX_VALUE), -12);
    Check.due("8: none told", c.count(1), 0);
    Check.due("8: laid", c.lay(0, 4, 0, 2, 2), 12);
    Check.due("8: most", c.told(0, 4, 0, 12), 9999);
    Check.due("8: above", c.told(0, 4, 1, 12), -1);
    Check.due("8: below", c.told(0, 4, 2, 12), -1);
    Check.due("8: last", c.told(0, 4, 11, 12), 77);
    Check.due("8: last, not yet", c.told(0, 4, 11, 11), -1);
    c.cell(1, 0, 200);
    Check.due("8: bytes", c.lay(0, 5, 1, 0, 0), 24);
    Check.due("8: a byte below 0", c.told(0, 5, 0, 24), -1);
  }

  private static void filling() {
    RainCover c = new RainCover();
    c.gauge(0, 0, 0);
    c.gauge(40, 0, 15);
    c.rain(0, 0, 3, 11);
    c.rain(0, 1, 3, 14);
    c.rain(0, 2, 4, 900);
    Check.due("10: its own", c.filled(0, 0, 3, 9), 11);
    Check.due("10: mean, cut", c.filled(0, 5, 3, 9), 12);
    Check.due("10: mean as known", c.filled(0, 5, 3, 1), 11);
    Check.due("10: nothing", c.filled(0, 5, 5, 9), 0);
    Check.due("10: nothing known yet", c.filled(0, 0, 3, 0), 0);
    c.rain(1, 5, 3, 70);
    Check.due("10: near, not standing", c.filled(0, 5, 3, 9), 70);
    Check.due("10: near, ahead of that", c.filled(0, 5, 3, 3), 12);
    Check.due("10: the other way", c.filled(1, 0, 3, 9), 11);
    c.law(0, 39);
    Check.due("10: not near", c.filled(0, 5, 3, 9), 12);
    Check.due("10: k", c.filled(0, 5, 3, -1), -5);
    Check.due("10: gauge", c.filled(2, 5, 3, 0), -5);
    Check.due("10: season", c.filled(0, -1, 3, 0), -5);
    Check.due("10: week", c.filled(0, 0, -1, 0), -5);
  }

  private static void fillingByNearest() {
    RainCover c = new RainCover();
    c.gauge(10, 10, 0);
    c.gauge(15, 15, 0);
    c.gauge(10, 19, 0);
    c.gauge(1, 10, 0);
    c.rain(1, 0, 0, 100);
    Check.due("10: the only one", c.filled(0, 0, 0, 9), 100);
    c.rain(3, 0, 0, 300);
    Check.due("10: a nearer one", c.filled(0, 0, 0, 9), 300);
    c.rain(2, 0, 0, 200);
    Check.due("10: of several the least number", c.filled(0, 0, 0, 9), 200);
    c.rain(2, 0, 0, -1);
    Check.due("10: not from a gap", c.filled(0, 0, 0, 9), 300);
    Check.due("10: as known", c.filled(0, 0, 0, 3), 200);
  }

  private static void spansAndOdds() {
    RainCover c = new RainCover();
    c.gauge(0, 0, 0);
    c.gauge(40, 0, 0);
    c.gauge(0, 40, 15);
    c.gauge(41, 0, 0);
    Check.due("11: none", c.span(0, 0, 0, 0), RainCover.NONE);
    c.rain(0, 0, 0, 5000);
    Check.due("11: not itself", c.span(0, 0, 0, 1), RainCover.NONE);
    Check.due("12: without neighbours", c.odd(0, 0), 0);
    c.rain(1, 0, 0, 1000);
    c.rain(2, 0, 0, 2000);
    c.rain(3, 0, 0, 9000);
    Check.due("11: least", c.span(0, 0, 0, 0), 1000);
    Check.due("11: greatest", c.span(0, 0, 0, 1), 2000);
    Check.due("11: the other way", c.span(2, 0, 0, 0), 5000);
    Check.due("11: what", c.span(0, 0, 0, 2), -5);
    Check.due("11: what", c.span(0, 0, 0, -1), -5);
    Check.due("11: gauge", c.span(4, 0, 0, 0), -5);
    Check.due("11: season", c.span(0, 16, 0, 0), -5);
    Check.due("11: week", c.span(0, 0, 12, 0), -5);
    int[][] odds = {{499, 1}, {500, 0}, {2500, 0}, {2501, 1}, {1500, 0}, {-1, 0}};
    for (int[] odd : odds) {
      c.rain(0, 0, 0, odd[0]);
      Check.due("12: rain " + odd[0], c.odd(0, 0), odd[1]);
    }
    c.rain(0, 0, 0, 0);
    c.rain(0, 0, 4, 600);
    c.rain(1, 0, 4, 0);
    Check.due("12: two weeks", c.odd(0, 0), 2);
    Check.due("12: another season", c.odd(0, 1), 0);
    Check.due("12: gauge", c.odd(4, 0), RainCover.NONE);
    Check.due("12: season", c.odd(0, 16), RainCover.NONE);
  }

  private static void fullOfTellings() {
    RainCover c = new RainCover();
    c.gauge(0, 0, 0);
    c.sheet(0, 2, 12);
    for (int i = 0; i < 57; i++) c.lay(0, i % 16, 0, 2, 0);
    for (int i = 0; i < 4; i++) c.green(0, 0, 0, 1);
    Check.due("8: room for the last 12", c.lay(0, 0, 0, 2, 0), 700);
    Check.due("5: full", c.rain(0, 0, 0, 1), RainCover.FULL);
    Check.due("6: full", c.green(0, 0, 0, 1), RainCover.FULL);
    Check.due("8: full", c.lay(0, 0, 0, 2, 0), RainCover.FULL);
    Check.due("8: too short ahead of full", c.lay(0, 0, 0, 2, 1), -12);
    Check.due("5: bad ahead of full", c.rain(0, 0, 0, -2), RainCover.BAD);

    RainCover d = new RainCover();
    d.gauge(0, 0, 0);
    d.sheet(0, 2, 12);
    for (int i = 0; i < 57; i++) d.lay(0, i % 16, 0, 2, 0);
    for (int i = 0; i < 5; i++) d.green(0, 0, 0, 1);
    Check.due("8: not all 12 have room", d.lay(0, 0, 0, 2, 0), RainCover.FULL);
    Check.due("8: none of them told", d.count(1), 689);
    for (int i = 690; i <= 699; i++) Check.due("5: the last ones", d.rain(0, 0, 0, 1), i);
    Check.due("6: the last one", d.green(0, 0, 0, 1), 700);
    Check.due("5: full", d.rain(0, 0, 0, 1), RainCover.FULL);
    Check.due("5: the first ones are known", d.told(0, 0, 0, 1), 0);

    RainCover e = new RainCover();
    e.gauge(0, 0, 0);
    e.sheet(0, 2, 12);
    for (int i = 0; i < 50; i++) e.lay(0, 1, 0, 2, 0);
    for (int i = 601; i <= 700; i++) Check.due("5: row", e.rain(0, 0, 0, i), i);
    Check.due("5: full", e.rain(0, 0, 0, 1), RainCover.FULL);
    for (int k = 601; k <= 700; k++) Check.due("9: each moment", e.told(0, 0, 0, k), k);
    for (int k = 1; k <= 50; k++) Check.due("9: far back", e.told(0, 1, 0, k), 0);
  }
}
