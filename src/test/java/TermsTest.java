/** Promises 13 to 15: the tape, terms, pay. */
public final class TermsTest {
  private static final String RATE = "rate 5 per 10 below 100 of sum 0 to 3 max 30";

  public static void main(String[] args) {
    feeding();
    soundTerms();
    faults();
    badTerms();
    fullOfTerms();
    paysByCases();
    paysByGreen();
    paysByRate();
    paysBeyondTheEnd();
    wrongPays();
    Check.end();
  }

  private static void feeding() {
    RainCover c = new RainCover();
    Check.due("13: no byte", c.feed(7, 0), 0);
    Check.due("13: n", c.feed(7, 5), RainCover.BAD);
    Check.due("13: n", c.feed(7, -1), RainCover.BAD);
    Check.due("13: four", c.feed(0x70617920, 4), 4);
    Check.due("13: the three lowest", c.feed(0x7f312069, 3), 7);
    Check.due("13: the two lowest", c.feed(0x00006620, 2), 9);
    Check.feed(c, "week 0 < 1");
    Check.due("13: count", c.count(8), 19);
    Check.due("13: the highest came first", c.term(), 0);
    Check.due("13: empty then", c.count(8), 0);
    for (int i = 1; i <= 24; i++) Check.due("13: row", c.feed(0, 4), 4 * i);
    Check.due("13: 99", c.feed(0, 3), 99);
    Check.due("13: no room for 2", c.feed(0, 2), RainCover.FULL);
    Check.due("13: bad ahead of full", c.feed(0, 5), RainCover.BAD);
    Check.due("13: 100", c.feed(0, 1), 100);
    Check.due("13: full", c.feed(0, 1), RainCover.FULL);
    Check.due("13: none more", c.feed(0, 0), 100);
    Check.due("14: a fault at once", c.term(), -10);
    Check.due("14: empty then", c.count(8), 0);
  }

  private static void soundTerms() {
    String[] sound = {
      "pay 1 if week 0 > 0",
      "pay 9999 if sum 00 to 11 < 0000",
      "pay 0 if dry 5 to 5 > 1 and green 0 to 11 < 100",
      "pay 5 if week 1 < 1 and week 2 < 1 and week 3 < 1 and week 11 > 9999",
      RATE,
      "rate 0 per 0001 below 0 of sum 11 to 11 max 0",
      "rate 9999 per 9999 below 9999 of sum 01 to 02 max 9999",
    };
    RainCover c = new RainCover();
    for (int i = 0; i < sound.length; i++) Check.due("14: " + sound[i], Check.term(c, sound[i]), i);
  }

  /** A mark ^ stands ahead of the byte of the FAULT, or at the end. */
  private static void faults() {
    String[] marked = {
      "^", "^x", "^Pay", "p^", "pa^x", "pay^", "pay ^", "pay ^x", "pay 1^", "pay 1234^5 if", "pay 12^-",
      "pay 1 ^of", "pay 1 i^s", "pay 1 if^", "pay 1 if ^", "pay 1 if ^pay", "pay 1 if s^", "pay 1 if su^n",
      "pay 1 if sum ^<", "pay 1 if sum 12^3", "pay 1 if sum 1^", "pay 1 if sum 1 ^2", "pay 1 if sum 1 to ^t",
      "pay 1 if sum 1 to 12^3", "pay 1 if sum 1 to 2 ^=", "pay 1 if sum 1 to 2 <^=", "pay 1 if sum 1 to 2 < ^",
      "pay 1 if sum 1 to 2 < 1234^5", "pay 1 if sum 1 to 2 < 1^x", "pay 1 if dry 1 to 2^", "pay 1 if d^ay",
      "pay 1 if green ^", "pay 1 if gree^y", "pay 1 if week 1 ^to", "pay 1 if week 1 > 5 ^",
      "pay 1 if week 1 > 5 a^s", "pay 1 if week 1 > 5 and^", "pay 1 if week 1 > 5 and ^x", "pay 1 if week 1 > 5 ^ ",
      "pay 1 if week 1 > 5^\n", "r^", "rate ^per", "rate 1^", "rate 1 ^x", "rate 1 per ^", "rate 1 per 1 ^of",
      "rate 1 per 1 below 5 of ^dry", "rate 1 per 1 below 5 of sum 1 to 2 ^and", RATE + "^ ", RATE + "^ and",
      "rate 5 per 10 below 100 of sum 0 to 3 max 3000^0", "pay 1 if week 99 > 5 ^x", "pay 1 if sum 9 to 8 ^",
      "pay 5 if week 1 < 1 and week 2 < 1 and week 3 < 1 and week 4 < 1^ and week 5 < 1",
      "pay 5 if week 1 < 1 and week 2 < 1 and week 3 < 1 and week 4 < 1^ ",
      "pay 5 if week 1 < 1 and week 2 < 1 and week 3 < 1 and week 4 < 1234^5",
      "pay ^ 1", "^ pay 1",
    };
    for (String text : marked) {
      RainCover c = new RainCover();
      int fault = text.indexOf('^');
      Check.due("14: " + text, Check.term(c, text.replace("^", "")), -10 - fault);
      Check.due("14: the tape is empty", c.count(8), 0);
      Check.due("14: no term came", c.count(2), 0);
    }
    RainCover c = new RainCover();
    c.feed(0x706179ff, 4);
    Check.due("14: a byte above 127", c.term(), -13);
  }

  private static void badTerms() {
    String[] bad = {
      "pay 1 if week 12 > 0", "pay 1 if week 99 > 0", "pay 1 if sum 5 to 4 > 0", "pay 1 if dry 0 to 12 > 0",
      "pay 1 if green 12 to 13 > 0", "pay 1 if week 0 > 0 and sum 3 to 2 < 1", "rate 1 per 0 below 1 of sum 0 to 1 max 1",
      "rate 1 per 0000 below 1 of sum 0 to 1 max 1", "rate 1 per 1 below 1 of sum 2 to 1 max 1",
      "rate 1 per 1 below 1 of sum 0 to 12 max 1",
    };
    RainCover c = new RainCover();
    for (String text : bad) {
      Check.due("14: " + text, Check.term(c, text), RainCover.BAD);
      Check.due("14: the tape is empty", c.count(8), 0);
    }
    Check.due("14: no term came", c.count(2), 0);
  }

  private static void fullOfTerms() {
    RainCover c = new RainCover();
    for (int i = 0; i < 8; i++) Check.due("14: number", Check.term(c, RATE), i);
    c.feed('x', 1);
    Check.due("14: full ahead of the fault", c.term(), RainCover.FULL);
    Check.due("14: the tape stays", c.count(8), 1);
    Check.due("14: count", c.count(2), 8);
  }

  private static void paysByCases() {
    RainCover c = new RainCover();
    c.gauge(0, 0, 0);
    Check.season(c, 0, 0, 50, 60, 79, 80, 99, 100, 119, 120, 0, 0, 0, 0);
    Check.term(c, "pay 7 if sum 0 to 2 < 189");
    Check.term(c, "pay 8 if sum 0 to 2 > 188 and week 0 < 51 and week 5 > 99");
    Check.term(c, "pay 9 if dry 0 to 7 > 4");
    Check.term(c, "pay 9 if dry 0 to 11 < 5");
    Check.term(c, "pay 6 if sum 0 to 2 > 189");
    Check.due("15: sum is not below", c.pay(0, 0, 0, 0, 0), 0);
    Check.due("15: all cases", c.pay(1, 0, 0, 0, 0), 8);
    Check.due("15: not all cases", c.pay(1, 0, 0, 1, 0), 0);
    Check.due("15: sum is not above", c.pay(4, 0, 0, 0, 0), 0);
    int[] dry = {9, 0, 9, 0};
    for (int crop = 0; crop < 4; crop++) Check.due("15: dryness " + crop, c.pay(2, 0, 0, 0, crop), dry[crop]);
    Check.due("15: five in a row from 2 on", c.pay(2, 0, 0, 2, 2), 9);
    int[] notDry = {0, 9, 0, 9};
    for (int crop = 0; crop < 4; crop++) Check.due("15: dryness " + crop, c.pay(3, 0, 0, 0, crop), notDry[crop]);
    Check.term(c, "pay 4 if dry 0 to 7 > 5");
    int[] sixDry = {0, 0, 4, 0};
    for (int crop = 0; crop < 4; crop++) Check.due("15: as much is not dry", c.pay(5, 0, 0, 0, crop), sixDry[crop]);
    Check.term(c, "pay 4 if dry 5 to 7 > 2");
    Check.due("15: as much is not dry", c.pay(6, 0, 0, 0, 2), 0);
    c.rain(0, 0, 2, 78);
    Check.due("15: sum is below", c.pay(0, 0, 0, 0, 0), 7);
  }

  private static void paysByGreen() {
    RainCover c = new RainCover();
    c.gauge(50, 0, 0);
    Check.term(c, "pay 3 if green 2 to 4 < 50");
    Check.term(c, "pay 4 if green 2 to 4 > 49");
    Check.due("15: no green", c.pay(0, 0, 0, 0, 0), 0);
    Check.due("15: no green", c.pay(1, 0, 0, 0, 0), 0);
    c.green(0, 0, 2, 20);
    c.green(2, 0, 1, 20);
    c.green(2, 0, 5, 90);
    Check.due("15: another district, other weeks", c.pay(0, 0, 0, 0, 0), 0);
    c.green(2, 0, 3, 49);
    Check.due("15: below", c.pay(0, 0, 0, 0, 0), 3);
    Check.due("15: not above", c.pay(1, 0, 0, 0, 0), 0);
    Check.due("15: planted later", c.pay(1, 0, 0, 1, 0), 4);
    c.green(2, 0, 4, 50);
    Check.due("15: the greatest", c.pay(0, 0, 0, 0, 0), 0);
    Check.due("15: the greatest", c.pay(1, 0, 0, 0, 0), 4);
    c.green(2, 0, 4, -1);
    Check.due("15: clouds", c.pay(0, 0, 0, 0, 0), 3);
    c.green(2, 0, 3, 0);
    Check.due("15: 0 is no gap", c.pay(0, 0, 0, 0, 0), 3);
  }

  private static void paysByRate() {
    RainCover c = new RainCover();
    c.gauge(0, 0, 0);
    Check.term(c, RATE);
    int[][] sums = {{0, 30}, {39, 30}, {40, 30}, {41, 25}, {80, 10}, {90, 5}, {91, 0}, {99, 0}, {100, 0}, {500, 0}};
    for (int[] sum : sums) {
      c.rain(0, 0, 3, sum[0]);
      Check.due("15: sum " + sum[0], c.pay(0, 0, 0, 0, 0), sum[1]);
    }
    Check.due("15: filled with the mean", c.pay(0, 0, 1, 0, 0), 0);
    Check.term(c, "rate 9999 per 1 below 9999 of sum 0 to 0 max 9998");
    Check.due("15: a great product", c.pay(1, 0, 2, 0, 0), 9998);
  }

  private static void paysBeyondTheEnd() {
    RainCover c = new RainCover();
    c.gauge(0, 0, 0);
    Check.even(c, 0, 0, 10);
    Check.term(c, "rate 1 per 1 below 100 of sum 8 to 11 max 1000");
    Check.term(c, "pay 1 if week 8 < 11");
    Check.term(c, "pay 1 if dry 8 to 11 > 1");
    Check.term(c, "pay 1 if green 8 to 11 < 11");
    for (int week = 0; week < 12; week++) c.green(0, 0, week, 10);
    int[] rate = {60, 70, 80, 90, 100, 100};
    int[] cases = {1, 1, 1, 1, 0, 0};
    int[] dry = {1, 1, 1, 0, 0, 0};
    for (int plant = 0; plant < 6; plant++) {
      Check.due("15: sum, plant " + plant, c.pay(0, 0, 0, plant, 0), rate[plant]);
      Check.due("15: week, plant " + plant, c.pay(1, 0, 0, plant, 0), cases[plant]);
      Check.due("15: dry, plant " + plant, c.pay(2, 0, 0, plant, 0), dry[plant]);
      Check.due("15: green, plant " + plant, c.pay(3, 0, 0, plant, 0), cases[plant]);
    }
  }

  private static void wrongPays() {
    RainCover c = new RainCover();
    c.gauge(0, 0, 0);
    Check.term(c, RATE);
    Check.due("15: term", c.pay(1, 0, 0, 9, 9), RainCover.NONE);
    Check.due("15: term", c.pay(-1, 0, 0, 0, 0), RainCover.NONE);
    Check.due("15: gauge", c.pay(0, 1, 0, 9, 9), RainCover.NONE);
    Check.due("15: season", c.pay(0, 0, 16, 9, 9), RainCover.NONE);
    Check.due("15: plant", c.pay(0, 0, 0, 6, 0), RainCover.BAD);
    Check.due("15: plant", c.pay(0, 0, 0, -1, 0), RainCover.BAD);
    Check.due("15: crop", c.pay(0, 0, 0, 0, 4), RainCover.BAD);
    Check.due("15: crop", c.pay(0, 0, 0, 0, -1), RainCover.BAD);
  }
}
