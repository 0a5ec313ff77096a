/** Promises 46 to 48: groups, votes, shares. */
public final class GroupsTest {
  public static void main(String[] args) {
    groups();
    votes();
    evenShares();
    sharesByArea();
    sharesByLoss();
    greatShares();
    Check.end();
  }

  /** FARMS of AREA 1, 2, 4, 8, all COVERED, with PAY 25 each. */
  private static RainCover fourFarms() {
    RainCover c = new RainCover();
    c.gauge(0, 0, 0);
    Check.term(c, "pay 25 if week 0 < 100");
    for (int f = 0; f < 4; f++) {
      c.farm(0, 0, 0, 1 << f);
      c.enroll(f, 0, 0);
    }
    return c;
  }

  private static void groups() {
    RainCover c = fourFarms();
    Check.due("46: in none at first", c.group(0, 3), -1);
    Check.due("46: was", c.group(0, 0), 3);
    Check.due("46: was", c.group(0, -1), 0);
    Check.due("46: farm", c.group(4, 9), RainCover.NONE);
    Check.due("46: farm", c.group(-1, 0), RainCover.NONE);
    Check.due("46: group", c.group(0, 4), -5);
    Check.due("46: group", c.group(0, -2), -5);
    Check.due("46: as it was", c.group(0, 1), -1);
  }

  private static void votes() {
    RainCover c = fourFarms();
    Check.due("47: 0 at first", c.vote(0, 2), 0);
    Check.due("47: was", c.vote(0, 1), 2);
    Check.due("47: farm", c.vote(4, 9), RainCover.NONE);
    Check.due("47: rule", c.vote(0, 3), RainCover.BAD);
    Check.due("47: rule", c.vote(0, -1), RainCover.BAD);
    Check.due("47: as it was", c.vote(0, 0), 1);
  }

  private static void shares(String text, RainCover c, int season, int... due) {
    for (int f = 0; f < due.length; f++) Check.due("48: " + text + ", " + f, c.share(f, season), due[f]);
  }

  private static void evenShares() {
    RainCover c = fourFarms();
    Check.due("48: farm", c.share(4, 0), -5);
    Check.due("48: season", c.share(0, 16), -5);
    Check.due("48: season", c.share(0, -1), -5);
    shares("without a group", c, 0, 25, 50, 100, 200);
    for (int f = 1; f < 4; f++) c.group(f, 2);
    shares("three", c, 0, 25, 117, 117, 116);
    c.group(0, 2);
    shares("four", c, 0, 94, 94, 94, 93);
    c.lapse(3, 1);
    shares("one is not covered", c, 1, 44, 44, 44, 43);
    c.group(1, 0);
    shares("another group", c, 0, 109, 50, 108, 108);
    c.group(0, 0);
    c.group(3, -1);
    shares("alone in a group", c, 0, 38, 37, 100, 200);
  }

  private static void sharesByArea() {
    RainCover c = fourFarms();
    for (int f = 0; f < 4; f++) c.group(f, 0);
    c.vote(3, 1);
    shares("one vote of four", c, 0, 94, 94, 94, 93);
    c.vote(2, 1);
    shares("of several the least number", c, 0, 94, 94, 94, 93);
    c.vote(1, 2);
    shares("most votes", c, 0, 25, 50, 100, 200);
    c.lapse(3, 1);
    shares("left over by numbers", c, 1, 12, 24, 46, 93);
    c.group(2, 1);
    c.vote(0, 2);
    shares("votes of its group alone", c, 1, 25, 25, 100, 25);
  }

  private static void sharesByLoss() {
    RainCover c = fourFarms();
    for (int f = 0; f < 4; f++) {
      c.group(f, 0);
      c.vote(f, 2);
    }
    shares("none looked at: evenly", c, 0, 94, 94, 94, 93);
    c.look(0, 0, 0, 5);
    shares("all are 0: evenly", c, 0, 94, 94, 94, 93);
    c.look(1, 0, 7, 9999);
    shares("doubt does not matter", c, 0, 0, 375, 0, 0);
    c.look(3, 0, 1, 0);
    shares("area times loss", c, 0, 1, 238, 0, 136);
    c.look(3, 0, 2, 0);
    shares("the latest", c, 0, 0, 175, 0, 200);
    c.look(2, 1, 2, 0);
    shares("another season", c, 1, 0, 0, 375, 0);
    c.vote(0, 0);
    c.vote(1, 1);
    shares("still most votes", c, 1, 0, 0, 375, 0);
    c.vote(3, 1);
    shares("of several the least number", c, 0, 25, 50, 100, 200);
  }

  private static void greatShares() {
    RainCover c = new RainCover();
    c.gauge(0, 0, 0);
    Check.term(c, "pay 9999 if week 0 < 100");
    for (int f = 0; f < 24; f++) {
      c.farm(0, 0, 0, 99);
      c.enroll(f, 0, 0);
      c.group(f, 3);
      c.vote(f, 2);
      c.look(f, 0, 9999, 0);
    }
    for (int f = 0; f < 24; f++) Check.due("48: great numbers", c.share(f, 0), 99 * 9999);
    c.look(5, 0, 9998, 0);
    int sum = 0;
    for (int f = 0; f < 24; f++) sum += c.share(f, 0);
    Check.due("48: all of it", sum, 24 * 99 * 9999);
  }
}
