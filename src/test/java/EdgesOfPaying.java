/** Boundary cases of promises 37 to 45. */
final class EdgesOfPaying extends Edges {
  static void run() {
    settle();
    settleByNumbers();
    settleFull();
    payment();
    fund();
    send();
    arrive();
    arriveWithoutRoom();
    complain();
    complainFull();
    judge();
    judgeKin();
    judgeByPayOfEach();
    judgeRefused();
    judgeFull();
    complaint();
    debt();
  }

  /** One GAUGE, one FARM of AREA 5, COVERED from SEASON 0 on by what is below 100 in WEEK 0. */
  private static RainCover ready() {
    RainCover c = new RainCover();
    c.gauge(0, 0, 0);
    Check.term(c, BELOW_100);
    c.farm(0, 0, 0, 5);
    c.enroll(0, 0, 0);
    return c;
  }

  /** As ready(), with a PAYMENT of 200, WAITING. */
  private static RainCover owing() {
    RainCover c = ready();
    c.rain(0, 0, 0, 60);
    c.settle(0);
    return c;
  }

  private static void settle() {
    says(37, "A SEASON is SETTLED: how many PAYMENTS came.",
        "OWED is DUE (as known now) less what is SETTLED of that FARM and SEASON (0 at first; behind this DUE).",
        "Above 0: of it goes off its DEBT, as far as there is one; of what is left, if it is above 0, there is a "
        + "PAYMENT, WAITING.", "Below 0: its DEBT grows by that.");
    // RAIN, then how many come, what is SETTLED, DEBT, how many PAYMENTS there are, how much the last one is.
    int[][] steps = {{100, 0, 0, 0, 0, -5}, {99, 1, 5, 0, 1, 5}, {99, 0, 5, 0, 1, 5}, {60, 1, 200, 0, 2, 195},
      {61, 0, 195, 5, 2, 195}, {61, 0, 195, 5, 2, 195}, {80, 0, 100, 100, 2, 195}, {79, 0, 105, 95, 2, 195},
      {60, 0, 200, 0, 2, 195}, {59, 1, 205, 0, 3, 5}, {100, 0, 0, 205, 3, 5}, {58, 1, 210, 0, 4, 5},
      {100, 0, 0, 210, 4, 5}, {0, 1, 500, 0, 5, 290}};
    RainCover c = ready();
    for (int[] step : steps) {
      c.rain(0, 3, 0, step[0]);
      due(c.settle(3), step[1]);
      due(c.of(0, 3, 5), step[2]);
      due(c.debt(0), step[3]);
      due(c.count(7), step[4]);
      due(c.payment(step[4] - 1, 2), step[5]);
    }
    // DEBT of one SEASON goes off what another one owes.
    c.rain(0, 3, 0, 90);
    c.settle(3);
    due(c.debt(0), 450);
    c.rain(0, 15, 0, 11);
    due(c.settle(15), 0);
    due(c.debt(0), 5);
    due(c.of(0, 15, 5), 445);
    c.rain(0, 0, 0, 98);
    due(c.settle(0), 1);
    due(c.debt(0), 0);
    due(c.payment(5, 2), 5);
    c.lapse(0, 0);
    due(c.settle(0), 0);
    due(c.debt(0), 10);
    due(c.settle(3), 0);
    due(c.debt(0), 60);
    due(c.settle(7), 0);

    says(37, "NONE;");
    range(0, 15, NONE, season -> ready().settle(season));
    due(new RainCover().settle(0), 0);
    due(new RainCover().settle(16), NONE);
  }

  private static void settleByNumbers() {
    says(37, "SETTLED: of a SEASON: for each FARM, by numbers:", "PAYMENTS 0 .. 199, as they come;");
    RainCover c = ready();
    for (int f = 1; f < 24; f++) c.farm(0, 0, 0, f);
    for (int f = 23; f > 0; f -= 2) c.enroll(f, 0, 0);
    c.rain(0, 0, 0, 99);
    c.rain(0, 1, 0, 98);
    due(c.settle(1), 13);
    due(c.settle(0), 13);
    int[] farms = {0, 1, 3, 5, 7, 9, 11, 13, 15, 17, 19, 21, 23};
    for (int i = 0; i < 13; i++) {
      due(c.payment(i, 0), farms[i]);
      due(c.payment(i, 1), 1);
      due(c.payment(i, 2), i == 0 ? 10 : 2 * farms[i]);
      due(c.payment(13 + i, 0), farms[i]);
      due(c.payment(13 + i, 1), 0);
      due(c.payment(13 + i, 2), i == 0 ? 5 : farms[i]);
    }
    due(c.payment(26, 0), -5);
  }

  /** Has 199 PAYMENTS; in SEASON 10 FARMS 0 and 1 are owed 1 and 2, and FARM 2 owes 3. */
  private static RainCover nearlyFull() {
    RainCover c = new RainCover();
    c.gauge(0, 0, 0);
    Check.term(c, "pay 1 if week 0 < 100");
    for (int f = 0; f < 20; f++) c.farm(0, 0, 0, f + 1);
    c.enroll(2, 0, 0);
    c.settle(10);
    for (int f = 0; f < 20; f++) c.enroll(f, 0, 0);
    for (int season = 0; season < 9; season++) c.settle(season);
    for (int f = 18; f < 20; f++) c.lapse(f, 9);
    c.settle(9);
    for (int f = 2; f < 18; f++) c.lapse(f, 10);
    return c;
  }

  private static void settleFull() {
    says(37, "FULL: they have no room (nothing is SETTLED then).");
    RainCover c = nearlyFull();
    due(c.count(7), 199);
    due(c.settle(10), FULL);
    due(c.count(7), 199);
    for (int f = 0; f < 20; f++) {
      due(c.of(f, 10, 5), f == 2 ? 3 : 0);
      due(c.debt(f), 0);
    }
    c.lapse(1, 10);
    due(c.settle(10), 1);
    due(c.count(7), 200);
    due(c.payment(199, 0), 0);
    due(c.payment(199, 2), 1);
    due(c.debt(2), 3);
    due(c.of(2, 10, 5), 0);
    due(c.settle(11), FULL);
    due(c.of(0, 11, 5), 0);
    due(c.settle(16), NONE);
    c.rain(0, 11, 0, 100);
    due(c.settle(11), 0);
    due(c.settle(10), 0);
    due(c.debt(0), 1);
    c.enroll(2, 0, 10);
    c.rain(0, 12, 0, 0);
    c.lapse(0, 12);
    due(c.settle(12), 0);
    due(c.debt(2), 0);
    due(c.of(2, 12, 5), 3);
    c.rain(0, 13, 0, 0);
    due(c.settle(13), FULL);
  }

  private static void payment() {
    says(38, "Of a PAYMENT: 0 the FARM, 1 the SEASON, 2 how much, 3 STATE.",
        "STATES: 0 WAITING, 1 SENT, 2 LOST, 3 GOT.");
    RainCover c = owing();
    c.fund(1000);
    int[] due = {0, 0, 200};
    for (int what = 0; what < 3; what++) due(c.payment(0, what), due[what]);
    due(c.payment(0, 3), 0);
    c.send(0);
    due(c.payment(0, 3), 1);
    c.arrive(0, 1);
    due(c.payment(0, 3), 2);
    c.send(0);
    due(c.payment(0, 3), 1);
    c.arrive(0, 0);
    due(c.payment(0, 3), 3);
    for (int what = 0; what < 3; what++) due(c.payment(0, what), due[what]);

    says(38, "-5: none such.");
    for (int what = 0; what < 4; what++) {
      int asked = what;
      range(0, 0, -5, p -> c.payment(p, asked));
    }
    range(0, 3, -5, what -> c.payment(0, what));
    due(new RainCover().payment(0, 0), -5);
    RainCover full = nearlyFull();
    due(full.payment(198, 0), 17);
    due(full.payment(199, 0), -5);
  }

  private static void fund() {
    says(39, "The FUND is more by v (-1000000000 .. 1000000000): what it is.");
    RainCover c = new RainCover();
    due(c.fund(0), 0);
    due(c.fund(1000000000), 1000000000);
    due(c.fund(1000000000), 2000000000);
    due(c.fund(0), 2000000000);
    due(c.fund(-1000000000), 1000000000);
    due(c.fund(-999999999), 1);
    due(c.fund(-1), 0);

    says(39, "BAD: also if it would be below 0, or too much.", "A FUND (0 at first, 2000000000 at most)");
    range(-1000000000, 1000000000, BAD, v -> {
      RainCover half = new RainCover();
      half.fund(1000000000);
      return half.fund(v);
    });
    due(c.fund(-1), BAD);
    due(c.fund(-1000000000), BAD);
    due(c.count(9), 0);
    c.fund(1000000000);
    due(c.fund(-1000000001), BAD);
    c.fund(999999999);
    due(c.fund(2), BAD);
    due(c.count(9), 1999999999);
    due(c.fund(1), 2000000000);
    for (int v : new int[] {1, 1000000000, 1000000001, HIGHEST, LOWEST}) due(c.fund(v), BAD);
    due(c.count(9), 2000000000);
  }

  private static void send() {
    says(40, "A PAYMENT is SENT: 1.", "pays what is SENT;",
        "STATE: it is not WAITING, LOST, or the FUND has too little.");
    RainCover c = owing();
    due(c.send(0), STATE);
    c.fund(199);
    due(c.send(0), STATE);
    due(c.count(9), 199);
    due(c.payment(0, 3), 0);
    c.fund(1);
    due(c.send(0), 1);
    due(c.count(9), 0);
    c.fund(500);
    due(c.send(0), STATE);
    due(c.count(9), 500);
    c.arrive(0, 1);
    c.fund(-501);
    due(c.send(0), STATE);
    due(c.payment(0, 3), 2);
    c.fund(1);
    due(c.send(0), 1);
    due(c.count(9), 0);
    c.arrive(0, 0);
    c.fund(500);
    due(c.send(0), STATE);
    due(c.count(9), 500);
    due(c.payment(0, 3), 3);

    says(40, "NONE;");
    range(0, 0, NONE, p -> owing().send(p));
    due(new RainCover().send(0), NONE);
  }

  private static void arrive() {
    says(41, "A SENT one is LOST (1), or GOT (0): 1.", "what is LOST comes back into it (and may be SENT again).",
        "STATE: it is not SENT.");
    RainCover c = owing();
    c.fund(300);
    for (int lost = 0; lost < 2; lost++) due(c.arrive(0, lost), STATE);
    due(c.count(9), 300);
    for (int again = 0; again < 3; again++) {
      c.send(0);
      due(c.count(9), 100);
      due(c.arrive(0, 1), 1);
      due(c.count(9), 300);
      due(c.payment(0, 3), 2);
      for (int lost = 0; lost < 2; lost++) due(c.arrive(0, lost), STATE);
      due(c.count(9), 300);
    }
    c.send(0);
    due(c.arrive(0, 0), 1);
    due(c.count(9), 100);
    due(c.payment(0, 3), 3);
    for (int lost = 0; lost < 2; lost++) due(c.arrive(0, lost), STATE);
    due(c.count(9), 100);

    says(41, "NONE; BAD;");
    range(0, 0, NONE, p -> owing().arrive(p, 0));
    range(0, 1, BAD, lost -> owing().arrive(0, lost));
    due(owing().arrive(1, 2), NONE);
    due(new RainCover().arrive(0, -1), NONE);
    due(c.arrive(0, 2), BAD);
    RainCover sent = owing();
    sent.fund(200);
    sent.send(0);
    due(sent.arrive(0, 2), BAD);
    due(sent.arrive(0, -1), BAD);
    due(sent.payment(0, 3), 1);
    due(sent.count(9), 0);
  }

  private static void arriveWithoutRoom() {
    says(41, "(What would be too much for the FUND is not LOST: STATE.)");
    RainCover c = owing();
    c.fund(200);
    c.send(0);
    c.fund(1000000000);
    c.fund(1000000000);
    due(c.arrive(0, 1), STATE);
    c.fund(-199);
    due(c.arrive(0, 1), STATE);
    due(c.count(9), 1999999801);
    due(c.payment(0, 3), 1);
    c.fund(-1);
    due(c.arrive(0, 1), 1);
    due(c.count(9), 2000000000);
    due(c.payment(0, 3), 2);
    c.send(0);
    c.fund(200);
    due(c.arrive(0, 1), STATE);
    due(c.arrive(0, 0), 1);
    due(c.count(9), 2000000000);
  }

  private static void complain() {
    says(42, "A COMPLAINT: its number.",
        "COMPLAINTS 0 .. 19, as they come, of a FARM and a SEASON in which it is COVERED (one of each at most).",
        "STATE: the FARM is not COVERED then, or has one of that SEASON;");
    RainCover c = ready();
    c.farm(0, 0, 0, 1);
    c.enroll(1, 0, 8);
    due(c.complain(1, 7), STATE);
    due(c.complain(1, 8), 0);
    due(c.complain(1, 8), STATE);
    due(c.complain(0, 8), 1);
    due(c.complain(1, 15), 2);
    c.lapse(1, 10);
    due(c.complain(1, 9), 3);
    due(c.complain(1, 10), STATE);
    due(c.complain(1, 15), STATE);
    c.enroll(1, 0, 10);
    due(c.complain(1, 15), STATE);
    due(c.complain(1, 10), 4);
    c.judge(0);
    due(c.complain(1, 8), STATE);
    c.look(0, 8, 9999, 0);
    c.judge(1);
    due(c.complaint(1, 3), 1);
    due(c.complain(0, 8), STATE);
    c.lapse(0, 8);
    due(c.complain(0, 8), STATE);
    due(c.count(11), 5);

    says(42, "NONE;");
    range(0, 0, NONE, farm -> ready().complain(farm, 0));
    range(0, 15, NONE, season -> ready().complain(0, season));
    due(new RainCover().complain(0, 0), NONE);
  }

  private static void complainFull() {
    says(42, "FULL.");
    RainCover c = ready();
    c.farm(0, 0, 0, 1);
    c.enroll(1, 0, 0);
    for (int i = 0; i < 20; i++) due(c.complain(i % 2, i / 2), i);
    due(c.complain(0, 10), FULL);
    due(c.complain(0, 9), STATE);
    due(c.complain(0, 16), NONE);
    c.lapse(0, 12);
    due(c.complain(0, 12), STATE);
    due(c.complain(2, 0), NONE);
    due(c.count(11), 20);
    due(c.complaint(19, 0), 1);
    due(c.complaint(19, 1), 9);
    c.judge(0);
    due(c.complain(0, 10), FULL);
  }

  /** FARMS of AREA 5, 6, .. at one GAUGE that pays 40, the first one with a COMPLAINT of SEASON 0. */
  private static RainCover complaining(int farms) {
    RainCover c = ready();
    for (int f = 1; f < farms; f++) c.farm(0, 0, 0, 5 + f);
    c.rain(0, 0, 0, 60);
    c.complain(0, 0);
    return c;
  }

  private static void judge() {
    says(43, "It is JUDGED: 1 RIGHT, 0 not.",
        "one of KIN is HURT by how much LOSS less DOUBT is above PAY (now) of that FARM by the TERM of the COMPLAINT.",
        "It is RIGHT if more of KIN are HURT by more than 0 than are not; then there is a PAYMENT, WAITING: its AREA "
        + "times the least by which one of KIN is HURT that is above 0.");
    // LOSS and DOUBT of each of KIN, and what is paid for one AREA (0: it is not RIGHT).
    int[][][] looks = {{{0}}, {{40, 0}, {0}}, {{41, 0}, {1}}, {{39, 0}, {0}}, {{9999, 9958}, {1}},
      {{9999, 9959}, {0}}, {{9999, 9999}, {0}}, {{9999, 0}, {9959}}, {{0, 9999}, {0}}, {{90, 0, 40, 0}, {0}},
      {{90, 0, 41, 0}, {1}}, {{90, 0, 0, 0, 70, 0}, {30}}, {{90, 0, 0, 0, 40, 0}, {0}},
      {{41, 1, 60, 20, 90, 0}, {0}}, {{41, 1, 60, 18, 90, 0}, {2}}, {{45, 0, 44, 0, 0, 0, 0, 0}, {0}},
      {{45, 0, 44, 0, 43, 0, 0, 0}, {3}}, {{43, 0, 44, 0, 45, 0, 40, 0, 39, 0}, {3}}};
    for (int[][] look : looks) {
      RainCover c = complaining(5);
      int[] kin = look.length == 1 ? new int[0] : look[0];
      int paid = look[look.length - 1][0];
      for (int f = 0; f < kin.length / 2; f++) c.look(f, 0, kin[2 * f], kin[2 * f + 1]);
      due(c.judge(0), paid > 0 ? 1 : 0);
      due(c.complaint(0, 3), paid > 0 ? 1 : 2);
      due(c.complaint(0, 4), paid > 0 ? 0 : -1);
      due(c.count(7), paid > 0 ? 1 : 0);
      int[] payment = {0, 0, 5 * paid, 0};
      for (int what = 0; what < 4; what++) due(c.payment(0, what), paid > 0 ? payment[what] : -5);
      due(c.of(0, 0, 5), 0);
      due(c.debt(0), 0);
    }
    // DEBT is no matter of it: all is paid, and the DEBT stays.
    RainCover owes = complaining(1);
    owes.settle(0);
    owes.rain(0, 0, 0, 90);
    owes.settle(0);
    due(owes.debt(0), 150);
    owes.look(0, 0, 50, 0);
    due(owes.judge(0), 1);
    due(owes.payment(1, 2), 200);
    due(owes.debt(0), 150);
    due(owes.of(0, 0, 5), 50);
    RainCover most = new RainCover();
    most.gauge(0, 0, 0);
    Check.term(most, "pay 1 if week 0 > 0");
    most.farm(0, 0, 0, 99);
    most.enroll(0, 0, 0);
    most.complain(0, 0);
    most.look(0, 0, 9999, 0);
    due(most.judge(0), 1);
    due(most.payment(0, 2), 99 * 9999);
  }

  private static void judgeKin() {
    says(43, "JUDGED: KIN are all LOOKED AT (as in 4) in that SEASON of FARMS that have its GAUGE then (itself, too; "
        + "none, if it has no GAUGE);");
    RainCover c = complaining(3);
    c.gauge(99, 99, 0);
    c.farm(99, 99, 0, 1);
    c.look(3, 0, 9999, 0);
    c.look(0, 1, 9999, 0);
    c.look(1, 15, 9999, 0);
    due(c.complaint(0, 5), 0);
    c.look(2, 0, 50, 0);
    due(c.complaint(0, 5), 1);
    c.look(0, 0, 0, 0);
    due(c.complaint(0, 5), 2);
    c.look(0, 0, 60, 0);
    due(c.complaint(0, 5), 2);
    c.down(0, 0);
    due(c.complaint(0, 5), 3);
    c.down(1, 0);
    due(c.complaint(0, 5), 0);
    due(c.judge(0), 0);
    c.down(0, 1);
    due(c.complaint(0, 5), 3);
    due(c.complaint(0, 3), 2);
    due(c.judge(0), STATE);
    RainCover other = complaining(2);
    other.gauge(99, 99, 0);
    other.farm(99, 99, 0, 1);
    other.look(2, 0, 0, 0);
    other.look(1, 0, 47, 0);
    due(other.judge(0), 1);
    due(other.payment(0, 2), 35);
  }

  private static void judgeByPayOfEach() {
    says(43, "PAY (now) of that FARM by the TERM of the COMPLAINT.");
    RainCover c = complaining(1);
    Check.term(c, "pay 99 if week 0 < 9999");
    c.farm(30, 0, 0, 1);
    c.enroll(1, 1, 0);
    c.look(1, 0, 45, 0);
    c.plant(1, 1);
    c.rain(0, 0, 1, 57);
    due(c.judge(0), 1);
    due(c.payment(0, 2), 5 * 2);
    c.complain(0, 1);
    c.lapse(0, 1);
    c.enroll(0, 1, 1);
    c.look(0, 1, 45, 0);
    c.rain(0, 1, 0, 56);
    due(c.judge(1), 1);
    due(c.payment(1, 2), 5);
    c.complain(0, 2);
    c.look(0, 2, 100, 0);
    c.rain(0, 2, 0, 99);
    due(c.judge(2), 1);
    due(c.payment(2, 2), 5);
    int[] dryness = {100, 80, 120, 60};
    for (int crop = 0; crop < 4; crop++) {
      RainCover d = new RainCover();
      d.gauge(0, 0, 0);
      Check.term(d, "pay 9 if dry 0 to 0 > 0");
      d.farm(0, 0, 0, 1);
      d.farm(0, 0, crop, 1);
      d.enroll(0, 0, 0);
      d.complain(0, 0);
      d.complain(0, 1);
      d.look(1, 0, 9, 0);
      d.look(1, 1, 9, 0);
      d.rain(0, 0, 0, dryness[crop] - 1);
      d.rain(0, 1, 0, dryness[crop]);
      due(d.judge(0), 0);
      due(d.judge(1), 1);
    }
  }

  private static void judgeRefused() {
    says(43, "NONE;");
    range(0, 0, NONE, complaint -> complaining(1).judge(complaint));
    due(ready().judge(0), NONE);

    says(43, "STATE: it was;");
    RainCover right = complaining(1);
    right.look(0, 0, 50, 0);
    due(right.judge(0), 1);
    due(right.judge(0), STATE);
    right.look(0, 0, 60, 0);
    due(right.judge(0), STATE);
    due(right.count(7), 1);
    due(right.payment(0, 2), 50);
    RainCover not = complaining(1);
    due(not.judge(0), 0);
    not.look(0, 0, 50, 0);
    due(not.judge(0), STATE);
    due(not.complaint(0, 3), 2);
    due(not.count(7), 0);
  }

  private static void judgeFull() {
    says(43, "FULL: a PAYMENT has no room (then it is not JUDGED).");
    RainCover c = nearlyFull();
    for (int season = 0; season < 4; season++) c.complain(0, season);
    for (int season = 0; season < 3; season++) c.look(0, season, 100, 0);
    due(c.judge(0), 1);
    due(c.complaint(0, 4), 199);
    due(c.payment(199, 2), 99);
    due(c.judge(1), FULL);
    due(c.complaint(1, 3), 0);
    due(c.complaint(1, 4), -1);
    due(c.count(7), 200);
    due(c.judge(1), FULL);
    due(c.judge(0), STATE);
    due(c.judge(4), NONE);
    due(c.judge(3), 0);
    c.look(0, 1, 1, 0);
    due(c.judge(1), 0);
    due(c.complaint(1, 3), 2);
  }

  private static void complaint() {
    says(44, "Of a COMPLAINT: 0 the FARM, 1 the SEASON, 2 the TERM (by which the FARM was COVERED when it came), 3 0 "
        + "open, 1 RIGHT, 2 not, 4 the PAYMENT (-1), 5 how many of KIN there are now.");
    RainCover c = ready();
    Check.term(c, "pay 1 if week 0 > 0");
    c.farm(0, 0, 0, 1);
    c.enroll(1, 1, 0);
    c.complain(1, 15);
    c.lapse(1, 15);
    c.enroll(1, 0, 15);
    c.complain(0, 3);
    int[][] open = {{1, 15, 1, 0, -1, 0}, {0, 3, 0, 0, -1, 0}};
    for (int i = 0; i < 2; i++) {
      for (int what = 0; what < 6; what++) due(c.complaint(i, what), open[i][what]);
    }
    c.look(0, 15, 500, 0);
    c.judge(1);
    c.judge(0);
    int[][] judged = {{1, 15, 1, 1, 0, 1}, {0, 3, 0, 2, -1, 0}};
    for (int i = 0; i < 2; i++) {
      for (int what = 0; what < 6; what++) due(c.complaint(i, what), judged[i][what]);
    }
    c.lapse(1, 0);
    due(c.complaint(0, 2), 1);

    says(44, "-5: none such.");
    for (int what = 0; what < 6; what++) {
      int asked = what;
      range(0, 1, -5, complaint -> c.complaint(complaint, asked));
    }
    range(0, 5, -5, what -> c.complaint(0, what));
    due(new RainCover().complaint(0, 0), -5);
  }

  private static void debt() {
    says(45, "DEBT of a FARM.", "Below 0: its DEBT grows by that.");
    RainCover c = owing();
    c.farm(0, 0, 0, 1);
    for (int f = 0; f < 2; f++) due(c.debt(f), 0);
    c.rain(0, 0, 0, 61);
    c.settle(0);
    due(c.debt(0), 5);
    due(c.debt(1), 0);
    c.rain(0, 0, 0, 100);
    c.settle(0);
    due(c.debt(0), 200);
    c.rain(0, 0, 0, 100);
    c.settle(0);
    due(c.debt(0), 200);

    says(45, "NONE.");
    range(0, 1, NONE, c::debt);
    due(new RainCover().debt(0), NONE);
  }
}
