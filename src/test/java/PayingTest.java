/** Promises 37 to 45: settling, payments, the fund, complaints, debts. */
public final class PayingTest {
  private static final String BELOW_100 = "rate 1 per 1 below 100 of sum 0 to 0 max 100";

  public static void main(String[] args) {
    settling();
    settlingWithDebt();
    settlingWithoutRoom();
    funds();
    sending();
    lostWithoutRoom();
    complaining();
    fullOfComplaints();
    judging();
    judgingByKin();
    judgingWithoutGauge();
    judgingWithoutRoom();
    Check.end();
  }

  /** One GAUGE, one FARM of AREA 5, COVERED from SEASON 0 on by what is below 100 in WEEK 0. */
  private static RainCover oneFarm() {
    RainCover c = new RainCover();
    c.gauge(0, 0, 0);
    Check.term(c, BELOW_100);
    c.farm(0, 0, 0, 5);
    c.enroll(0, 0, 0);
    return c;
  }

  private static void settling() {
    RainCover c = oneFarm();
    c.farm(0, 0, 0, 7);
    c.farm(0, 0, 0, 2);
    c.enroll(2, 0, 1);
    Check.due("37: season", c.settle(16), RainCover.NONE);
    Check.due("37: season", c.settle(-1), RainCover.NONE);
    c.rain(0, 0, 0, 100);
    Check.due("37: nothing due", c.settle(0), 0);
    c.rain(0, 0, 0, 60);
    Check.due("37: one is covered", c.settle(0), 1);
    Check.due("37: once", c.settle(0), 0);
    Check.due("20: settled", c.of(0, 0, 5), 200);
    c.rain(0, 1, 0, 90);
    Check.due("37: two are covered", c.settle(1), 2);
    int[][] due = {{0, 0, 200, 0}, {0, 1, 50, 0}, {2, 1, 20, 0}};
    for (int p = 0; p < due.length; p++) {
      for (int what = 0; what < 4; what++) Check.due("38: " + p + ", " + what, c.payment(p, what), due[p][what]);
    }
    Check.due("38: payment", c.payment(3, 0), -5);
    Check.due("38: payment", c.payment(-1, 0), -5);
    Check.due("38: what", c.payment(0, 4), -5);
    Check.due("38: what", c.payment(0, -1), -5);
    Check.due("37: count", c.count(7), 3);
  }

  private static void settlingWithDebt() {
    RainCover c = oneFarm();
    c.rain(0, 0, 0, 60);
    c.settle(0);
    c.rain(0, 0, 0, 90);
    Check.due("37: below 0", c.settle(0), 0);
    Check.due("45: grown", c.debt(0), 150);
    Check.due("20: behind this due", c.of(0, 0, 5), 50);
    c.rain(0, 0, 0, 80);
    Check.due("37: all goes off the debt", c.settle(0), 0);
    Check.due("45: less", c.debt(0), 100);
    c.rain(0, 1, 0, 80);
    Check.due("37: of another season, just the debt", c.settle(1), 0);
    Check.due("45: none", c.debt(0), 0);
    c.rain(0, 1, 0, 81);
    c.settle(1);
    Check.due("45: again", c.debt(0), 5);
    c.rain(0, 0, 0, 78);
    Check.due("37: more than the debt", c.settle(0), 1);
    Check.due("38: what is left", c.payment(1, 2), 5);
    Check.due("45: none", c.debt(0), 0);
    c.lapse(0, 1);
    Check.due("37: not covered any more", c.settle(1), 0);
    Check.due("45: all of it", c.debt(0), 95);
    Check.due("45: farm", c.debt(1), RainCover.NONE);
    Check.due("45: farm", c.debt(-1), RainCover.NONE);
  }

  /** Leaves room for few PAYMENTS: each round of settling gives one of each of the FARMS. */
  private static void settlingWithoutRoom() {
    RainCover c = new RainCover();
    c.gauge(0, 0, 0);
    Check.term(c, "pay 1 if week 0 < 100");
    for (int f = 0; f < 22; f++) {
      c.farm(0, 0, 0, f + 1);
      c.enroll(f, 0, 0);
    }
    for (int season = 0; season < 9; season++) Check.due("37: all", c.settle(season), 22);
    Check.due("37: no room for 22", c.settle(9), RainCover.FULL);
    Check.due("37: nothing came", c.count(7), 198);
    Check.due("37: nothing is settled", c.of(0, 9, 5), 0);
    for (int f = 2; f < 22; f++) c.lapse(f, 9);
    Check.due("37: room for 2", c.settle(9), 2);
    Check.due("38: the last one", c.payment(199, 2), 2);
    Check.due("37: no room for 2", c.settle(10), RainCover.FULL);
    c.rain(0, 9, 0, 100);
    Check.due("37: none is needed", c.settle(9), 0);
    Check.due("45: a debt needs no room", c.debt(1), 2);
    Check.due("45: a debt needs no room", c.debt(0), 1);
    for (int season = 10; season < 16; season++) c.rain(0, season, 0, 0);
    Check.due("37: just the debts", c.settle(10), 0);
    Check.due("45: none", c.debt(1), 0);
    Check.due("37: no room", c.settle(11), RainCover.FULL);
  }

  private static void funds() {
    RainCover c = new RainCover();
    Check.due("39: 0 at first", c.fund(0), 0);
    Check.due("39: below 0", c.fund(-1), RainCover.BAD);
    Check.due("39: the most", c.fund(1000000000), 1000000000);
    Check.due("39: too great a number", c.fund(1000000001), RainCover.BAD);
    Check.due("39: too small a number", c.fund(-1000000001), RainCover.BAD);
    Check.due("39: twice", c.fund(1000000000), 2000000000);
    Check.due("39: too much", c.fund(1), RainCover.BAD);
    Check.due("39: too much", c.fund(1000000000), RainCover.BAD);
    Check.due("39: as it was", c.count(9), 2000000000);
    Check.due("39: less", c.fund(-1000000000), 1000000000);
    Check.due("39: nothing left", c.fund(-1000000000), 0);
  }

  private static void sending() {
    RainCover c = oneFarm();
    c.rain(0, 0, 0, 60);
    c.settle(0);
    c.fund(199);
    Check.due("40: none", c.send(1), RainCover.NONE);
    Check.due("40: none", c.send(-1), RainCover.NONE);
    Check.due("40: too little", c.send(0), RainCover.STATE);
    Check.due("40: still waiting", c.payment(0, 3), 0);
    Check.due("41: not sent", c.arrive(0, 0), RainCover.STATE);
    c.fund(1);
    Check.due("40: sent", c.send(0), 1);
    Check.due("40: the fund pays", c.count(9), 0);
    Check.due("38: sent", c.payment(0, 3), 1);
    Check.due("40: twice", c.send(0), RainCover.STATE);
    Check.due("41: none", c.arrive(1, 9), RainCover.NONE);
    Check.due("41: lost", c.arrive(0, 2), RainCover.BAD);
    Check.due("41: lost", c.arrive(0, -1), RainCover.BAD);
    Check.due("41: is lost", c.arrive(0, 1), 1);
    Check.due("41: comes back", c.count(9), 200);
    Check.due("38: lost", c.payment(0, 3), 2);
    Check.due("41: not sent", c.arrive(0, 1), RainCover.STATE);
    Check.due("40: again", c.send(0), 1);
    Check.due("41: is got", c.arrive(0, 0), 1);
    Check.due("41: nothing comes back", c.count(9), 0);
    Check.due("38: got", c.payment(0, 3), 3);
    Check.due("41: not sent", c.arrive(0, 1), RainCover.STATE);
    c.fund(1000);
    Check.due("40: got", c.send(0), RainCover.STATE);
    Check.due("41: bad ahead of state", c.arrive(0, 2), RainCover.BAD);
  }

  private static void lostWithoutRoom() {
    RainCover c = oneFarm();
    c.rain(0, 0, 0, 60);
    c.settle(0);
    c.fund(1000000000);
    c.send(0);
    c.fund(1000000000);
    Check.due("41: a fund near its most", c.fund(1), 1999999801);
    Check.due("41: too much", c.arrive(0, 1), RainCover.STATE);
    Check.due("38: still sent", c.payment(0, 3), 1);
    c.fund(-1);
    Check.due("41: just so", c.arrive(0, 1), 1);
    Check.due("41: the most", c.count(9), 2000000000);
  }

  private static void complaining() {
    RainCover c = oneFarm();
    Check.term(c, "pay 3 if week 0 < 100");
    c.farm(0, 0, 0, 1);
    Check.due("42: farm", c.complain(2, 0), RainCover.NONE);
    Check.due("42: season", c.complain(0, 16), RainCover.NONE);
    Check.due("42: not covered", c.complain(1, 0), RainCover.STATE);
    Check.due("42: number", c.complain(0, 3), 0);
    Check.due("42: one of that season", c.complain(0, 3), RainCover.STATE);
    Check.due("42: another season", c.complain(0, 4), 1);
    c.lapse(0, 4);
    c.enroll(0, 1, 4);
    Check.due("42: still that one", c.complain(0, 4), RainCover.STATE);
    Check.due("42: by the new term", c.complain(0, 5), 2);
    int[][] due = {{0, 3, 0, 0, -1, 0}, {0, 4, 0, 0, -1, 0}, {0, 5, 1, 0, -1, 0}};
    for (int i = 0; i < due.length; i++) {
      for (int what = 0; what < 6; what++) Check.due("44: " + i + ", " + what, c.complaint(i, what), due[i][what]);
    }
    Check.due("44: complaint", c.complaint(3, 0), -5);
    Check.due("44: complaint", c.complaint(-1, 5), -5);
    Check.due("44: what", c.complaint(0, 6), -5);
    Check.due("44: what", c.complaint(0, -1), -5);
    Check.due("42: count", c.count(11), 3);
  }

  private static void fullOfComplaints() {
    RainCover c = oneFarm();
    c.farm(0, 0, 0, 1);
    c.enroll(1, 0, 0);
    for (int i = 0; i < 20; i++) Check.due("42: number", c.complain(i / 16, i % 16), i);
    Check.due("42: full", c.complain(1, 4), RainCover.FULL);
    Check.due("42: state ahead of full", c.complain(1, 3), RainCover.STATE);
    Check.due("42: none ahead of full", c.complain(2, 4), RainCover.NONE);
  }

  private static void judging() {
    RainCover c = oneFarm();
    c.rain(0, 0, 0, 60);
    for (int season = 0; season < 4; season++) c.complain(0, season);
    Check.due("43: none", c.judge(4), RainCover.NONE);
    Check.due("43: none", c.judge(-1), RainCover.NONE);
    Check.due("43: no kin", c.judge(0), 0);
    Check.due("44: not right", c.complaint(0, 3), 2);
    Check.due("44: no payment", c.complaint(0, 4), -1);
    Check.due("43: it was", c.judge(0), RainCover.STATE);
    c.look(0, 1, 90, 50);
    Check.due("44: one of kin", c.complaint(1, 5), 1);
    Check.due("43: hurt by 0", c.judge(1), 0);
    c.look(0, 2, 90, 49);
    Check.due("43: hurt by 1", c.judge(2), 1);
    Check.due("44: right", c.complaint(2, 3), 1);
    Check.due("44: the payment", c.complaint(2, 4), 0);
    int[] payment = {0, 2, 5, 0};
    for (int what = 0; what < 4; what++) Check.due("43: payment, " + what, c.payment(0, what), payment[what]);
    Check.due("43: it was", c.judge(2), RainCover.STATE);
    c.look(0, 2, 0, 0);
    Check.due("44: it stays", c.complaint(2, 3), 1);
    Check.due("43: settled is not touched", c.of(0, 2, 5), 0);
    Check.due("43: one payment", c.count(7), 1);
  }

  private static void judgingByKin() {
    RainCover c = new RainCover();
    c.law(0, 0);
    c.gauge(0, 0, 0);
    c.gauge(99, 0, 0);
    Check.term(c, BELOW_100);
    Check.term(c, "pay 1 if week 0 < 1");
    int[] x = {0, 30, 10, 99, 20};
    for (int f = 0; f < 5; f++) c.farm(x[f], 0, 0, f + 2);
    c.enroll(0, 0, 0);
    c.enroll(1, 1, 0);
    c.rain(0, 0, 0, 60);
    c.rain(0, 0, 1, 95);
    c.plant(1, 1);
    c.complain(0, 0);
    c.look(1, 0, 30, 5);
    c.look(2, 0, 30, 5);
    c.look(3, 0, 9999, 0);
    c.look(0, 1, 9999, 0);
    Check.due("44: of its gauge and season", c.complaint(0, 5), 2);
    c.look(4, 0, 70, 10);
    Check.due("44: a third", c.complaint(0, 5), 3);
    Check.due("43: by its term and each one's plant", c.judge(0), 1);
    Check.due("43: the least above 0", c.payment(0, 2), 2 * 20);
    c.complain(0, 1);
    c.look(0, 1, 45, 0);
    c.look(1, 1, 50, 0);
    c.look(2, 1, 50, 0);
    c.look(4, 1, 20, 0);
    c.rain(0, 1, 0, 60);
    c.rain(0, 1, 1, 50);
    Check.due("43: as many are not, one by 0", c.judge(1), 0);
    c.complain(0, 2);
    c.look(0, 2, 45, 0);
    c.look(2, 2, 47, 1);
    c.look(4, 2, 40, 0);
    c.rain(0, 2, 0, 60);
    Check.due("43: two of three", c.judge(2), 1);
    Check.due("43: not the one by 0", c.payment(1, 2), 2 * 5);
    c.complain(1, 0);
    c.look(2, 0, 0, 0);
    c.look(4, 0, 0, 0);
    c.look(0, 0, 60, 0);
    Check.due("44: itself, too", c.complaint(3, 5), 4);
    Check.due("43: as many are not", c.judge(3), 0);
  }

  private static void judgingWithoutGauge() {
    RainCover c = oneFarm();
    c.look(0, 0, 9999, 0);
    c.complain(0, 0);
    c.down(0, 0);
    Check.due("44: no kin", c.complaint(0, 5), 0);
    Check.due("43: not right", c.judge(0), 0);
  }

  private static void judgingWithoutRoom() {
    RainCover c = new RainCover();
    c.gauge(0, 0, 0);
    Check.term(c, "pay 1 if week 0 < 100");
    for (int f = 0; f < 20; f++) {
      c.farm(0, 0, 0, 1);
      c.enroll(f, 0, 0);
    }
    for (int season = 0; season < 10; season++) c.settle(season);
    c.look(0, 0, 100, 0);
    c.complain(0, 0);
    c.complain(0, 1);
    Check.due("43: full", c.judge(0), RainCover.FULL);
    Check.due("44: still open", c.complaint(0, 3), 0);
    Check.due("43: without a payment", c.judge(1), 0);
    c.look(0, 0, 0, 0);
    Check.due("43: without a payment", c.judge(0), 0);
  }
}
