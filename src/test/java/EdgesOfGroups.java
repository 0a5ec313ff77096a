/** Boundary cases of promises 46 to 48. */
final class EdgesOfGroups extends Edges {
  static void run() {
    group();
    vote();
    rule();
    shareEvenly();
    shareByArea();
    shareByLoss();
    shareRefused();
  }

  /** FARMS of AREA 1, 2, 4, 8, all COVERED, with PAY 25 each, so that DUE is 25, 50, 100, 200. */
  private static RainCover ready() {
    RainCover c = new RainCover();
    c.gauge(0, 0, 0);
    Check.term(c, "pay 25 if week 0 < 100");
    for (int f = 0; f < 4; f++) {
      c.farm(0, 0, 0, 1 << f);
      c.enroll(f, 0, 0);
    }
    return c;
  }

  /** As ready(), all in GROUP 3 and each voting for a RULE. */
  private static RainCover voting(int... rules) {
    RainCover c = ready();
    for (int f = 0; f < 4; f++) {
      c.group(f, 3);
      c.vote(f, rules[f]);
    }
    return c;
  }

  private static void shares(RainCover c, int season, int... due) {
    for (int f = 0; f < due.length; f++) due(c.share(f, season), due[f]);
  }

  private static void group() {
    says(46, "A FARM is in a GROUP (-1: in none): in which it was.", "GROUPS 0 .. 3: a FARM is in one or none;");
    RainCover c = ready();
    due(c.group(0, -1), -1);
    due(c.group(0, 0), -1);
    due(c.group(0, 3), 0);
    due(c.group(0, 3), 3);
    due(c.group(1, 2), -1);
    due(c.group(0, -1), 3);
    due(c.group(0, 1), -1);
    due(c.group(1, 0), 2);

    says(46, "NONE: farm; group is not -1 .. 3 (-5: this one).");
    for (int f : new int[] {-1, 4, 24, LOWEST, HIGHEST}) {
      due(c.group(f, 0), NONE);
      due(c.group(f, 4), NONE);
    }
    due(new RainCover().group(0, 0), NONE);
    range(-1, 3, -5, g -> voting(0, 0, 0, 0).group(0, g));
    due(c.group(0, 4), -5);
    due(c.group(0, -2), -5);
    due(c.group(0, 1), 1);
  }

  private static void vote() {
    says(47, "It votes for a RULE: for which it did.",
        "it votes for a RULE (0 evenly, 1 by AREA, 2 by LOSS; 0 at first).");
    RainCover c = ready();
    for (int f = 0; f < 4; f++) due(c.vote(f, 2), 0);
    due(c.vote(0, 1), 2);
    due(c.vote(0, 0), 1);
    due(c.vote(0, 0), 0);
    due(c.vote(1, 0), 2);

    says(47, "NONE; BAD.");
    range(0, 3, NONE, farm -> ready().vote(farm, 0));
    range(0, 2, BAD, rule -> ready().vote(0, rule));
    due(c.vote(4, 3), NONE);
    due(c.vote(-1, -1), NONE);
    due(c.vote(2, 3), BAD);
    due(c.vote(2, -1), BAD);
    due(c.vote(2, 0), 2);
    due(new RainCover().vote(0, 0), NONE);
  }

  private static void rule() {
    says(48, "THE RULE of a GROUP: that with most votes, of several the least number.");
    // Votes of the four FARMS, then THE RULE.
    int[][] votes = {{0, 0, 0, 0, 0}, {1, 1, 1, 1, 1}, {2, 2, 2, 2, 2}, {0, 0, 1, 1, 0}, {0, 0, 2, 2, 0},
      {1, 1, 2, 2, 1}, {2, 2, 1, 1, 1}, {1, 1, 0, 0, 0}, {0, 1, 2, 2, 2}, {0, 1, 1, 2, 1}, {0, 1, 2, 0, 0},
      {2, 2, 2, 0, 2}, {1, 2, 1, 1, 1}};
    int[][] shares = {{94, 94, 94, 93}, {25, 50, 100, 200}, {375, 0, 0, 0}};
    for (int[] v : votes) {
      RainCover c = voting(v[0], v[1], v[2], v[3]);
      c.look(0, 0, 1, 0);
      shares(c, 0, shares[v[4]]);
    }
    // One vote each: the lesser RULE of the two, not the one that nobody voted for.
    for (int first = 1; first <= 2; first++) {
      RainCover two = ready();
      for (int f = 2; f < 4; f++) two.group(f, 0);
      two.vote(2, first);
      two.vote(3, 3 - first);
      two.look(2, 0, 1, 0);
      shares(two, 0, 25, 50, 100, 200);
      two.vote(2, 2);
      two.vote(3, 2);
      shares(two, 0, 25, 50, 300, 0);
    }
    // Votes of those that are in another GROUP, or in none, do not count.
    RainCover c = voting(1, 0, 0, 0);
    c.group(1, 2);
    c.group(2, -1);
    shares(c, 0, 113, 50, 100, 112);
    c.vote(3, 1);
    shares(c, 0, 25, 50, 100, 200);
    c.group(3, 0);
    shares(c, 0, 25, 50, 100, 200);
  }

  private static void shareEvenly() {
    says(48, "SHARE.",
        "SHARE of a FARM in a SEASON: of the sum of DUE (as known now) of its GROUP: each one gets the whole part by "
        + "the RULE", "of what is left over each one, by numbers, gets 1.", "(Without a GROUP: its DUE.)");
    RainCover c = ready();
    shares(c, 0, 25, 50, 100, 200);
    for (int f = 0; f < 4; f++) {
      c.group(f, f);
      shares(c, 0, 25, 50, 100, 200);
    }
    // Members of one GROUP, and their SHARES.
    int[][] members = {{0, 1}, {0, 2}, {1, 3}, {0, 1, 2}, {0, 1, 3}, {1, 2, 3}, {0, 1, 2, 3}};
    int[][] due = {{38, 37}, {63, 62}, {125, 125}, {59, 58, 58}, {92, 92, 91}, {117, 117, 116}, {94, 94, 94, 93}};
    for (int i = 0; i < members.length; i++) {
      RainCover d = ready();
      for (int f : members[i]) d.group(f, 1);
      for (int j = 0; j < members[i].length; j++) due(d.share(members[i][j], 15), due[i][j]);
    }
    RainCover d = voting(0, 0, 0, 0);
    d.rain(0, 7, 0, 100);
    shares(d, 7, 0, 0, 0, 0);
    d.rain(0, 7, 0, 99);
    shares(d, 7, 94, 94, 94, 93);
    for (int f = 1; f < 4; f++) d.lapse(f, 9);
    shares(d, 8, 94, 94, 94, 93);
    shares(d, 9, 7, 6, 6, 6);
    d.lapse(0, 9);
    shares(d, 9, 0, 0, 0, 0);
    d.enroll(3, 0, 9);
    shares(d, 9, 50, 50, 50, 50);
    d.farm(0, 0, 0, 99);
    d.group(4, 3);
    shares(d, 9, 40, 40, 40, 40, 40);
  }

  private static void shareByArea() {
    says(48, "each one gets the whole part by the RULE");
    RainCover c = voting(1, 1, 1, 1);
    shares(c, 0, 25, 50, 100, 200);
    c.lapse(0, 3);
    shares(c, 3, 24, 47, 93, 186);
    c.lapse(3, 4);
    shares(c, 4, 10, 20, 40, 80);
    c.lapse(1, 4);
    c.lapse(2, 5);
    shares(c, 4, 7, 14, 26, 53);
    shares(c, 5, 0, 0, 0, 0);
    RainCover most = new RainCover();
    most.gauge(0, 0, 0);
    Check.term(most, "pay 9999 if week 0 < 100");
    for (int f = 0; f < 24; f++) {
      most.farm(0, 0, 0, f == 0 ? 1 : 99);
      most.group(f, 0);
      most.vote(f, 1);
      most.enroll(f, 0, 0);
    }
    for (int f = 0; f < 24; f++) due(most.share(f, 0), f == 0 ? 9999 : 99 * 9999);
  }

  private static void shareByLoss() {
    says(48, "(2: by AREA times LOSS as LOOKED AT in that SEASON, 0 without; if all are 0: evenly);");
    RainCover c = voting(2, 2, 2, 2);
    shares(c, 0, 94, 94, 94, 93);
    for (int f = 0; f < 4; f++) c.look(f, 0, 0, 5);
    shares(c, 0, 94, 94, 94, 93);
    c.look(3, 0, 1, 9999);
    shares(c, 0, 0, 0, 0, 375);
    shares(c, 1, 94, 94, 94, 93);
    c.look(0, 0, 8, 0);
    shares(c, 0, 188, 0, 0, 187);
    c.look(1, 0, 7, 0);
    shares(c, 0, 100, 175, 0, 100);
    c.look(0, 0, 0, 0);
    shares(c, 0, 1, 238, 0, 136);
    for (int f = 0; f < 4; f++) c.look(f, 0, 9999, 0);
    shares(c, 0, 25, 50, 100, 200);
    c.look(2, 15, 9999, 0);
    shares(c, 15, 0, 0, 375, 0);
    RainCover most = new RainCover();
    most.gauge(0, 0, 0);
    Check.term(most, "pay 9999 if week 0 < 100");
    for (int f = 0; f < 24; f++) {
      most.farm(0, 0, 0, 99);
      most.group(f, 0);
      most.vote(f, 2);
      most.enroll(f, 0, 0);
      most.look(f, 0, f == 23 ? 0 : 9999, 0);
    }
    // 24 * 99 * 9999 by 23: 1032940 each, and 4 left over.
    for (int f = 0; f < 24; f++) due(most.share(f, 0), f == 23 ? 0 : f < 4 ? 1032941 : 1032940);
  }

  private static void shareRefused() {
    says(48, "-5: no such FARM, SEASON.");
    range(0, 3, -5, farm -> ready().share(farm, 0));
    range(0, 15, -5, season -> ready().share(0, season));
    range(0, 3, -5, farm -> voting(2, 2, 2, 2).share(farm, 0));
    range(0, 15, -5, season -> voting(1, 1, 1, 1).share(0, season));
    due(new RainCover().share(0, 0), -5);
  }
}
