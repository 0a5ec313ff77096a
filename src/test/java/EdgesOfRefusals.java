import java.util.Arrays;
import java.util.function.Supplier;
import java.util.function.ToLongFunction;

/** What is refused changes nothing, whichever promise it is of; of several answers it is the first that is named. */
final class EdgesOfRefusals extends Edges {
  private static final String CHANGES_NOTHING = "What is answered so changes nothing.";

  static void run() {
    constants();
    probesTell();
    rain();
    terms();
    farms();
    fields();
    prices();
    paying();
    groupsAndActs();
    sheets();
    whatIsFull();
    firstOfSeveral();
    questionsChangeNothing();
  }

  private static void constants() {
    says(2, "Answers: NONE (-1) there is no such number; BAD (-2) a number is not as told; STATE (-3) as told; FULL "
        + "(-4);");
    due(RainCover.NONE, -1);
    due(RainCover.BAD, -2);
    due(RainCover.STATE, -3);
    due(RainCover.FULL, -4);
  }

  /** Some of everything: YEARS for SEASON 12 on, PAYMENTS that are WAITING, SENT, LOST and GOT, a COMPLAINT judged. */
  private static RainCover rich() {
    RainCover c = new RainCover();
    c.gauge(10, 10, 0);
    c.gauge(30, 10, 2);
    c.gauge(90, 90, 0);
    c.down(2, 12);
    Check.term(c, BELOW_100);
    Check.term(c, "pay 40 if green 0 to 3 > 20");
    for (int f = 0; f < 4; f++) c.farm(10 + 20 * f, 10, f, 3 + f);
    for (int f = 0; f < 3; f++) c.enroll(f, f % 2, 0);
    c.lapse(2, 9);
    c.sheet(0, 2, 14);
    c.sheet(1, 0, 12);
    for (int i = 0; i < 6; i++) c.cell(i % 2, i, 20 + i);
    for (int i = 0; i < 4; i++) c.lay(i % 2, i / 2, 0, 2, i / 2);
    c.rain(0, 0, 0, 60);
    c.rain(0, 0, 0, 70);
    c.green(0, 0, 0, 30);
    c.green(1, 0, 1, 30);
    c.law(0, 45);
    c.plant(1, 2);
    for (int f = 0; f < 2; f++) c.group(f, 1);
    c.vote(1, 1);
    c.look(0, 0, 90, 10);
    c.look(1, 0, 80, 5);
    c.look(3, 9, 7, 5);
    c.site(5, 5);
    c.site(60, 60);
    c.settle(0);
    c.settle(1);
    c.settle(9);
    c.fund(9000);
    for (int p = 0; p < 3; p++) c.send(p);
    c.arrive(0, 1);
    c.arrive(1, 0);
    c.rain(0, 0, 0, 80);
    c.settle(0);
    c.complain(0, 0);
    c.complain(1, 3);
    c.judge(0);
    c.act(2, 2, 5);
    c.lots(9);
    Check.feed(c, "pay 1 if we");
    return c;
  }

  /** As many GAUGES, TERMS, FARMS, SITES, COVERS as there may be, and a text on THE TAPE. */
  private static RainCover fullOfFarms() {
    RainCover c = new RainCover();
    for (int i = 0; i < 8; i++) {
      c.gauge(9 * i, 9, 0);
      c.site(9, 9 * i);
      Check.term(c, "pay " + i + " if week 0 < 9");
    }
    for (int f = 0; f < 24; f++) {
      c.farm(4 * f, 9, f % 4, 9 + f);
      c.enroll(f, f % 8, 0);
    }
    for (int i = 0; i < 36; i++) {
      c.lapse(i % 18, 3 + i / 18);
      c.enroll(i % 18, 1, 3 + i / 18);
    }
    Check.feed(c, "pay 1 if we");
    c.act(2, 2, 5);
    return c;
  }

  /** As many TELLINGS, FARMS LOOKED AT, PAYMENTS, COMPLAINTS, bytes of THE TAPE as there may be. */
  private static RainCover fullOfPayments() {
    RainCover c = new RainCover();
    c.gauge(9, 9, 0);
    Check.term(c, "pay 7 if week 0 < 9");
    c.sheet(0, 2, 12);
    c.sheet(1, 0, 12);
    c.cell(0, 3, 5);
    for (int i = 0; i < 58; i++) c.lay(0, i % 16, 0, 2, 0);
    for (int i = 0; i < 4; i++) c.green(i, 0, 0, 9);
    for (int f = 0; f < 20; f++) {
      c.farm(4 * f, 9, f % 4, 9 + f);
      c.enroll(f, 0, 0);
    }
    for (int season = 0; season < 10; season++) c.settle(season);
    for (int i = 0; i < 20; i++) c.complain(i, 0);
    for (int i = 0; i < 80; i++) c.look(i / 16, i % 16, 90 + i, i % 7);
    for (int i = 0; i < 25; i++) c.feed(0x23232323, 4);
    return c;
  }

  /** Answers that tell most of what an object holds; what they change comes last. */
  private static long[] probe(RainCover c) {
    long[] told = new long[300];
    int n = 0;
    for (int what = 0; what < 12; what++) told[n++] = c.count(what);
    for (int i = 0; i < 9; i++) told[n++] = c.trace(i);
    for (int i = 0; i < 18; i++) told[n++] = c.told(i / 6, i % 2, i / 2 % 3 * 5, HIGHEST);
    for (int i = 0; i < 4; i++) told[n++] = c.told(0, 0, 0, 20 * i);
    for (int i = 0; i < 6; i++) told[n++] = c.seen(i % 3, 0, i / 3, HIGHEST);
    for (int i = 0; i < 48; i++) told[n++] = c.of(i / 12, i / 6 % 2 * 9, i % 6);
    for (int i = 0; i < 4; i++) told[n++] = c.due(i, 0, HIGHEST) + c.due(i, 15, HIGHEST);
    for (int i = 0; i < 24; i++) told[n++] = c.payment(i / 4, i % 4);
    for (int i = 0; i < 12; i++) told[n++] = c.complaint(i / 6, i % 6);
    for (int f = 0; f < 4; f++) told[n++] = c.debt(f) + c.taken(f, 0);
    for (int f = 0; f < 4; f++) told[n++] = c.share(f, 0);
    for (int i = 0; i < 6; i++) told[n++] = c.basis(i / 3, i % 3, 0);
    for (int i = 0; i < 4; i++) told[n++] = c.best(1 + i / 2, i % 2);
    for (int i = 0; i < 6; i++) told[n++] = c.price(i % 2, i / 2, 0, 0, 0);
    told[n++] = c.line(0, 198, 0);
    told[n++] = c.income(13);
    // One of two YEARS lasts, so this tells the throws that z will give.
    for (int i = 0; i < 12; i++) told[n++] = c.lasts(0, 13, 1, 1);
    for (int i = 0; i < 4; i++) told[n++] = c.law(i, 0);
    for (int i = 0; i < 4; i++) told[n++] = c.plant(i, 0);
    for (int i = 0; i < 3; i++) told[n++] = c.group(i, -1);
    for (int i = 0; i < 3; i++) told[n++] = c.vote(i, 0);
    told[n++] = c.cell(2, 0, 0);
    Check.feed(c, "ek 0 < 1");
    told[n++] = c.term();
    for (int sheet = 0; sheet < 2; sheet++) {
      told[n++] = c.lay(0, 14, sheet, sheet == 0 ? 2 : 0, 0);
      for (int week = 0; week < 8; week++) told[n++] = c.told(0, 14, week, HIGHEST);
    }
    return told;
  }

  /** A call is answered so, and what the object tells then is what one tells that never got it. */
  private static void same(Supplier<RainCover> made, long answer, ToLongFunction<RainCover> call) {
    RainCover c = made.get();
    due(call.applyAsLong(c), answer);
    due(firstUnlike(probe(c), probe(made.get())), -1);
  }

  private static int firstUnlike(long[] one, long[] other) {
    return Arrays.mismatch(one, other);
  }

  private static void refused(long answer, ToLongFunction<RainCover> call) {
    same(EdgesOfRefusals::rich, answer, call);
  }

  /** A probe that saw nothing would pass every test: each of these changes has to be seen. */
  private static void probesTell() {
    says(2, "changes nothing");
    long[] before = probe(rich());
    for (ToLongFunction<RainCover> change : Arrays.<ToLongFunction<RainCover>>asList(
        c -> c.gauge(0, 0, 0), c -> c.down(0, 0), c -> c.law(0, 44), c -> c.law(3, 7), c -> c.rain(2, 1, 10, 3),
        c -> c.green(2, 0, 1, 3), c -> c.lay(2, 1, 0, 2, 0), c -> c.feed('x', 1), c -> c.term(),
        c -> c.farm(0, 0, 0, 1), c -> c.plant(3, 1), c -> c.enroll(2, 0, 9), c -> c.lapse(1, 9),
        c -> c.look(0, 0, 91, 10), c -> c.site(0, 0), c -> c.lots(8), c -> c.settle(5), c -> c.fund(1),
        c -> c.send(0), c -> c.arrive(2, 0), c -> c.complain(0, 5), c -> c.judge(1), c -> c.group(2, 1),
        c -> c.vote(2, 1), c -> c.act(0, 0, 0), c -> c.sheet(2, 0, 1), c -> c.sheet(0, -1, 0), c -> c.cell(0, 3, 9),
        c -> c.copy(0, 0, 0, 1, 5))) {
      RainCover c = rich();
      change.applyAsLong(c);
      due(firstUnlike(probe(c), before) >= 0 ? 1 : 0, 1);
    }
    due(firstUnlike(probe(rich()), before), -1);
  }

  private static void rain() {
    says(2, CHANGES_NOTHING);
    refused(BAD, c -> c.gauge(100, 0, 0));
    refused(BAD, c -> c.gauge(0, -1, 0));
    refused(NONE, c -> c.gauge(0, 0, 16));
    says(3, CHANGES_NOTHING);
    refused(NONE, c -> c.down(3, 0));
    refused(NONE, c -> c.down(0, 17));
    refused(NONE, c -> c.down(0, -1));
    says(4, CHANGES_NOTHING);
    refused(NONE, c -> c.law(4, 0));
    refused(NONE, c -> c.law(-1, 0));
    for (int i = 0; i < 4; i++) {
      int what = i;
      refused(BAD, c -> c.law(what, -1));
      refused(BAD, c -> c.law(what, new int[] {199, 10000, 301, 101}[what]));
    }
    says(5, CHANGES_NOTHING);
    refused(NONE, c -> c.rain(3, 0, 0, 1));
    refused(NONE, c -> c.rain(0, 16, 0, 1));
    refused(NONE, c -> c.rain(0, 0, 12, 1));
    refused(BAD, c -> c.rain(0, 0, 0, 10000));
    refused(BAD, c -> c.rain(0, 0, 0, -2));
    says(6, CHANGES_NOTHING);
    refused(NONE, c -> c.green(4, 0, 0, 1));
    refused(NONE, c -> c.green(0, -1, 0, 1));
    refused(NONE, c -> c.green(0, 0, 12, 1));
    refused(BAD, c -> c.green(0, 0, 0, 101));
    refused(BAD, c -> c.green(0, 0, 0, -2));
    says(8, CHANGES_NOTHING);
    refused(NONE, c -> c.lay(3, 0, 0, 2, 0));
    refused(NONE, c -> c.lay(0, 16, 0, 2, 0));
    refused(BAD, c -> c.lay(0, 0, 3, 2, 0));
    refused(BAD, c -> c.lay(0, 0, 0, 3, 0));
    refused(-13, c -> c.lay(0, 0, 0, 0, 0));
    refused(-11, c -> c.lay(0, 0, 2, 2, 0));
    refused(-12, c -> c.lay(0, 0, 0, 2, 3));
    refused(-12, c -> c.lay(0, 0, 1, 0, -1));
  }

  private static void terms() {
    says(13, CHANGES_NOTHING);
    refused(BAD, c -> c.feed(0, 5));
    refused(BAD, c -> c.feed(0, -1));
  }

  private static void farms() {
    says(16, CHANGES_NOTHING);
    refused(BAD, c -> c.farm(100, 0, 0, 1));
    refused(BAD, c -> c.farm(0, 100, 0, 1));
    refused(BAD, c -> c.farm(0, 0, 4, 1));
    refused(BAD, c -> c.farm(0, 0, 0, 100));
    says(17, CHANGES_NOTHING);
    refused(NONE, c -> c.plant(4, 0));
    refused(BAD, c -> c.plant(1, 6));
    refused(BAD, c -> c.plant(1, -1));
    says(18, CHANGES_NOTHING);
    refused(NONE, c -> c.enroll(4, 0, 0));
    refused(NONE, c -> c.enroll(3, 2, 0));
    refused(NONE, c -> c.enroll(3, 0, 16));
    refused(STATE, c -> c.enroll(0, 1, 5));
    refused(STATE, c -> c.enroll(2, 1, 8));
    says(19, CHANGES_NOTHING);
    refused(NONE, c -> c.lapse(4, 0));
    refused(NONE, c -> c.lapse(0, 16));
    refused(STATE, c -> c.lapse(3, 0));
    refused(STATE, c -> c.lapse(2, 9));
  }

  private static void fields() {
    says(23, CHANGES_NOTHING);
    refused(NONE, c -> c.look(4, 0, 1, 1));
    refused(NONE, c -> c.look(0, 16, 1, 1));
    refused(BAD, c -> c.look(0, 0, 10000, 1));
    refused(BAD, c -> c.look(0, 0, 1, 10000));
    refused(BAD, c -> c.look(2, 0, 1, -1));
    says(25, CHANGES_NOTHING);
    refused(BAD, c -> c.site(100, 0));
    refused(BAD, c -> c.site(0, -1));
  }

  private static void prices() {
    says(36, CHANGES_NOTHING);
    refused(NONE, c -> c.lasts(0, 16, 1, 1));
    refused(BAD, c -> c.lasts(-1, 13, 1, 1));
    refused(BAD, c -> c.lasts(0, 13, 0, 1));
    refused(BAD, c -> c.lasts(0, 13, 1, 41));
    refused(STATE, c -> c.lasts(0, 3, 5, 5));
  }

  private static void paying() {
    says(37, CHANGES_NOTHING);
    refused(NONE, c -> c.settle(16));
    refused(NONE, c -> c.settle(-1));
    says(39, CHANGES_NOTHING);
    refused(BAD, c -> c.fund(1000000001));
    refused(BAD, c -> c.fund(-1000000001));
    refused(BAD, c -> c.fund(-9001));
    says(40, CHANGES_NOTHING);
    refused(NONE, c -> c.send(-1));
    refused(NONE, c -> c.send(200));
    refused(STATE, c -> c.send(1));
    refused(STATE, c -> c.send(2));
    says(41, CHANGES_NOTHING);
    refused(NONE, c -> c.arrive(-1, 0));
    refused(BAD, c -> c.arrive(2, 2));
    refused(STATE, c -> c.arrive(0, 1));
    refused(STATE, c -> c.arrive(1, 1));
    refused(STATE, c -> c.arrive(3, 0));
    says(42, CHANGES_NOTHING);
    refused(NONE, c -> c.complain(4, 0));
    refused(NONE, c -> c.complain(0, 16));
    refused(STATE, c -> c.complain(3, 0));
    refused(STATE, c -> c.complain(0, 0));
    says(43, CHANGES_NOTHING);
    refused(NONE, c -> c.judge(2));
    refused(STATE, c -> c.judge(0));
  }

  private static void groupsAndActs() {
    says(46, CHANGES_NOTHING);
    refused(NONE, c -> c.group(4, 0));
    refused(-5, c -> c.group(0, 4));
    refused(-5, c -> c.group(0, -2));
    says(47, CHANGES_NOTHING);
    refused(NONE, c -> c.vote(4, 0));
    refused(BAD, c -> c.vote(1, 3));
    says(50, CHANGES_NOTHING);
    refused(NONE, c -> c.trace(8));
    says(51, CHANGES_NOTHING);
    refused(BAD, c -> c.taken(0, 4));
    refused(-11, c -> c.taken(4, 0));
    refused(-13, c -> c.taken(0, 1));
  }

  private static void sheets() {
    says(53, CHANGES_NOTHING);
    refused(BAD, c -> c.sheet(3, 0, 1));
    refused(BAD, c -> c.sheet(-1, -1, 1));
    refused(BAD, c -> c.sheet(0, 3, 1));
    refused(BAD, c -> c.sheet(0, -2, 1));
    refused(BAD, c -> c.sheet(0, 0, 41));
    refused(-14, c -> c.sheet(0, 0, -1));
    refused(-14, c -> c.sheet(2, 2, -1));
    says(54, CHANGES_NOTHING);
    refused(BAD, c -> c.cell(3, 0, 1));
    refused(-11, c -> c.cell(2, 0, 1));
    refused(-12, c -> c.cell(0, 14, 1));
    refused(-12, c -> c.cell(0, -1, 1));
    says(55, CHANGES_NOTHING);
    refused(BAD, c -> c.copy(0, 0, 3, 0, 1));
    refused(-11, c -> c.copy(0, 0, 2, 0, 1));
    refused(-13, c -> c.copy(0, 0, 1, 0, 1));
    refused(-12, c -> c.copy(0, 0, 0, 3, 12));
    refused(-12, c -> c.copy(0, 3, 0, 0, 12));
    refused(-12, c -> c.copy(0, 0, 0, 1, -1));
  }

  private static void whatIsFull() {
    says(2, CHANGES_NOTHING, "FULL.");
    same(EdgesOfRefusals::fullOfFarms, FULL, c -> c.gauge(0, 0, 0));
    says(14, CHANGES_NOTHING, "FULL (it stays)");
    same(EdgesOfRefusals::fullOfFarms, FULL, c -> c.term());
    says(16, CHANGES_NOTHING, "FULL.");
    same(EdgesOfRefusals::fullOfFarms, FULL, c -> c.farm(0, 0, 0, 1));
    says(18, CHANGES_NOTHING, "FULL.");
    same(EdgesOfRefusals::fullOfFarms, STATE, c -> c.enroll(0, 0, 0));
    same(EdgesOfRefusals::fullOfCovers, FULL, c -> c.enroll(23, 0, 9));
    says(25, CHANGES_NOTHING, "FULL.");
    same(EdgesOfRefusals::fullOfFarms, FULL, c -> c.site(0, 0));
    says(5, CHANGES_NOTHING, "FULL.");
    same(EdgesOfRefusals::fullOfPayments, FULL, c -> c.rain(0, 0, 0, 1));
    says(6, CHANGES_NOTHING, "FULL.");
    same(EdgesOfRefusals::fullOfPayments, FULL, c -> c.green(0, 0, 0, 1));
    says(8, CHANGES_NOTHING, "FULL: not all 12 have room.");
    same(EdgesOfRefusals::fullOfPayments, FULL, c -> c.lay(0, 0, 0, 2, 0));
    says(13, CHANGES_NOTHING, "FULL.");
    same(EdgesOfRefusals::fullOfPayments, FULL, c -> c.feed(0, 1));
    says(23, CHANGES_NOTHING, "FULL.");
    same(EdgesOfRefusals::fullOfPayments, FULL, c -> c.look(5, 0, 1, 1));
    says(37, CHANGES_NOTHING, "(nothing is SETTLED then)");
    same(EdgesOfRefusals::fullOfPayments, FULL, c -> c.settle(10));
    says(42, CHANGES_NOTHING, "FULL.");
    same(EdgesOfRefusals::fullOfPayments, FULL, c -> c.complain(0, 5));
    says(43, CHANGES_NOTHING, "(then it is not JUDGED)");
    same(EdgesOfRefusals::fullOfPayments, FULL, c -> c.judge(0));
  }

  private static RainCover fullOfCovers() {
    RainCover c = fullOfFarms();
    c.lapse(23, 5);
    return c;
  }

  /** Each call is wrong in all ways from some way on, so the first one of these that is named is due. */
  private static void firstOfSeveral() {
    String words = "the first that a call's words name.";
    RainCover farms = fullOfCovers();
    RainCover payments = fullOfPayments();
    says(2, words);
    due(farms.gauge(100, 100, 16), BAD);
    due(farms.gauge(0, 0, 16), NONE);
    says(4, words);
    due(farms.law(4, -1), NONE);
    says(5, words);
    due(payments.rain(1, 16, 12, -2), NONE);
    due(payments.rain(0, 0, 12, -2), NONE);
    due(payments.rain(0, 0, 0, -2), BAD);
    says(6, words);
    due(payments.green(4, 16, 12, -2), NONE);
    due(payments.green(0, 0, 0, -2), BAD);
    says(8, words);
    due(payments.lay(1, 16, 3, 3, -1), NONE);
    due(payments.lay(0, 0, 3, 3, -1), BAD);
    due(payments.lay(0, 0, 0, 1, -1), -13);
    due(payments.lay(0, 0, 2, 1, -1), -11);
    due(payments.lay(0, 0, 0, 2, -1), -12);
    says(13, words);
    due(payments.feed(0, 5), BAD);
    says(15, words);
    due(payments.pay(1, 1, 16, 6, 4), NONE);
    says(16, words);
    due(farms.farm(100, 100, 4, 0), BAD);
    says(17, words);
    due(farms.plant(4, 6), NONE);
    says(18, words);
    due(farms.enroll(0, 8, 0), NONE);
    due(farms.enroll(24, 0, 0), NONE);
    due(farms.enroll(0, 0, 16), NONE);
    due(farms.enroll(23, 0, 4), STATE);
    says(19, words);
    due(farms.lapse(24, 5), NONE);
    says(22, words);
    due(farms.line(16, 199, 3), NONE);
    due(farms.line(0, 199, 3), NONE);
    due(farms.line(16, 199, 0), NONE);
    says(23, words);
    due(payments.look(20, 16, -1, -1), NONE);
    due(payments.look(5, 0, -1, 0), BAD);
    says(25, words);
    due(farms.site(100, 100), BAD);
    says(34, words);
    due(farms.layer(16, 16, -1, -2), NONE);
    says(36, words);
    due(farms.lasts(-1, 16, 0, 0), NONE);
    due(farms.lasts(-1, 0, 0, 0), BAD);
    says(37, words);
    due(payments.settle(16), NONE);
    says(41, words);
    due(payments.arrive(200, 2), NONE);
    due(payments.arrive(0, 2), BAD);
    says(42, words);
    due(payments.complain(20, 0), NONE);
    due(payments.complain(0, 0), STATE);
    says(43, words);
    due(payments.judge(20), NONE);
    says(46, words);
    due(payments.group(20, 4), NONE);
    says(47, words);
    due(payments.vote(20, 3), NONE);
    says(51, words);
    due(payments.taken(20, 4), BAD);
    says(53, words);
    due(payments.sheet(3, 3, 41), BAD);
    due(payments.sheet(3, 0, -1), BAD);
    due(payments.sheet(0, 3, -1), BAD);
    says(54, words);
    due(payments.cell(3, -1, 0), BAD);
    due(payments.cell(2, -1, 0), -11);
    says(55, words);
    due(payments.copy(2, -1, 3, -1, -1), BAD);
    due(payments.copy(2, -1, 1, -1, -1), -11);
    due(payments.copy(0, -1, 1, -1, -1), -13);
    due(payments.copy(0, -1, 0, -1, -1), -12);
  }

  /** Calls that ask only; some of them work with rows that others use, too. */
  private static void questionsChangeNothing() {
    says(52, "How many:");
    RainCover c = rich();
    c.seen(0, 0, 0, 9);
    c.told(0, 0, 0, 9);
    c.filled(0, 5, 0, 9);
    c.span(0, 0, 0, 1);
    c.odd(0, 0);
    c.pay(0, 1, 3, 2, 1);
    c.of(0, 0, 3);
    c.due(1, 5, 9);
    for (int what = 0; what < 3; what++) c.line(0, 198, what);
    c.basis(0, 0, 1);
    for (int what = 0; what < 5; what++) c.best(2, what);
    c.mean(0, 0, 1, 1, 0);
    for (int what = 0; what < 3; what++) c.price(0, 0, 1, 1, what);
    c.trend(0, 0, 1, 1, 0);
    c.beside(0, 1, 0, 1, 1, 0);
    c.foretold(0, 0, 3, 3, 1, 1, 2);
    c.income(0);
    c.total(0, 3);
    c.layer(0, 3, 1, 5);
    c.payment(0, 2);
    c.complaint(0, 5);
    c.debt(0);
    c.share(0, 0);
    c.trace(0);
    c.taken(0, 0);
    c.count(1);
    due(firstUnlike(probe(c), probe(rich())), -1);
  }
}
