/** Boundary cases of promises 13 to 15. */
final class EdgesOfTerms extends Edges {
  /** Sound, and just as long as THE TAPE. */
  private static final String LONGEST = "pay 9999 if sum 00 to 11 < 9999 and dry 00 to 11 < 9999"
      + " and green 00 to 11 < 9999 and week 11 > 9999";
  private static final String[] SOUND = {
    LONGEST,
    "rate 0123 per 0001 below 9999 of sum 00 to 11 max 0000",
    "rate 1 per 1 below 1 of sum 0 to 1 max 1",
    "pay 0 if green 1 to 9 > 0 and week 3 < 12 and dry 2 to 2 < 1",
  };

  static void run() {
    feed();
    feedFull();
    soundTexts();
    numbersOfDigits();
    cases();
    faultsAtEachPlace();
    faultsAtTheEnd();
    badTexts();
    termFull();
    payRefused();
    payBySum();
    payByDry();
    payByGreen();
    payByWeek();
    payByCases();
    payByRate();
    payBeyondTheLastWeek();
    payNow();
  }

  private static void feed() {
    says(13, "THE TAPE gets the n lowest bytes of a number, the highest of these first (n 0 .. 4): how many it has.");
    RainCover c = new RainCover();
    due(c.feed(HIGHEST, 0), 0);
    due(c.feed(LOWEST, 0), 0);
    due(c.feed(0x23232370, 1), 1);
    due(c.feed(0x23236179, 2), 3);
    due(c.feed(0x23203120, 3), 6);
    due(c.feed(0x69662077, 4), 10);
    Check.feed(c, "eek 0 > 0");
    due(c.count(8), 19);
    due(c.term(), 0);
    due(c.feed(-1, 4), 4);
    due(c.term(), -10);
    due(c.feed(0, 1), 1);
    due(c.term(), -10);
    due(c.feed(0x70617900, 4), 4);
    due(c.term(), -13);
    due(c.feed(0x706179a0, 4), 4);
    due(c.term(), -13);
    due(c.feed(0xf0617920, 4), 4);
    due(c.term(), -10);
  }

  private static void feedFull() {
    says(13, "BAD; FULL.", "THE TAPE (bytes, 100 at most)");
    range(0, 4, BAD, n -> new RainCover().feed(0, n));
    RainCover c = new RainCover();
    for (int i = 1; i <= 24; i++) c.feed(0, 4);
    due(c.feed(0, 1), 97);
    due(c.feed(0, 4), FULL);
    due(c.count(8), 97);
    due(c.feed(0, 3), 100);
    for (int n = 1; n <= 4; n++) due(c.feed(0, n), FULL);
    due(c.feed(0, 0), 100);
    due(c.feed(0, 5), BAD);
    due(c.feed(0, -1), BAD);
    due(c.count(8), 100);
    RainCover d = new RainCover();
    Check.feed(d, LONGEST);
    due(d.count(8), 100);
    due(d.feed('1', 1), FULL);
    due(d.term(), 0);
    due(d.feed('p', 1), 1);
  }

  /** What a text is answered with by a new object. */
  private static int read(String text) {
    return Check.term(new RainCover(), text);
  }

  private static void soundTexts() {
    says(14, "THE TAPE is a TERM: its number;", "A TERM is read from",
        ", with one blank between words: pay N if CASE, or up to 4 CASES with and between; or: rate N per K below M "
        + "of sum A to B max P.", "CASE: sum A to B OP N, or dry A to B OP N, or green A to B OP N, or week A OP N.");
    RainCover c = new RainCover();
    for (int i = 0; i < SOUND.length; i++) due(Check.term(c, SOUND[i]), i);
    due(c.count(2), SOUND.length);
    due(read("pay  1 if week 0 > 0"), -14);
    due(read("pay 1 if week 0  > 0"), -26);
    due(read(" pay 1 if week 0 > 0"), -10);
    due(read("pay 1 if week 0 > 0 "), -30);
    due(read("pay 1 if week 0>0"), -25);
    due(read("rate 1 per 1 below 1 of dry 0 to 1 max 1"), -34);
    due(read("rate 1 per 1 below 1 of sum 0 to 1 max 1 "), -50);
    due(read("rate 1 per 1 below 1 of sum 0 to 1"), -44);
    due(read("pay 1 if week 0 to 1 > 0"), -26);
    due(read("pay 1 if sum 0 > 0"), -25);
  }

  private static void numbersOfDigits() {
    says(14, "N, K, M, P: 1 to 4 digits;");
    String[] long4 = {"pay #", "pay 1 if week 0 > #", "pay 1 if sum 0 to 1 < #", "pay 1 if dry 0 to 1 < #",
      "pay 1 if green 0 to 1 < #", "pay 1 if week 0 > 1 and week 0 > #", "rate #", "rate 1 per #",
      "rate 1 per 1 below #", "rate 1 per 1 below 1 of sum 0 to 1 max #"};
    String[] rest4 = {" if week 0 > 0", "", "", "", "", "", " per 1 below 1 of sum 0 to 1 max 1",
      " below 1 of sum 0 to 1 max 1", " of sum 0 to 1 max 1", ""};
    for (int i = 0; i < long4.length; i++) digits(long4[i], rest4[i], 4);
    says(14, "A, B: 1 or 2 digits;");
    String[] long2 = {"pay 1 if week #", "pay 1 if sum #", "pay 1 if sum 0 to #", "pay 1 if dry #",
      "pay 1 if dry 0 to #", "pay 1 if green #", "pay 1 if green 0 to #", "rate 1 per 1 below 1 of sum #",
      "rate 1 per 1 below 1 of sum 0 to #"};
    String[] rest2 = {" > 0", " to 11 < 1", " < 1", " to 11 < 1", " < 1", " to 11 < 1", " < 1",
      " to 11 max 1", " max 1"};
    for (int i = 0; i < long2.length; i++) digits(long2[i], rest2[i], 2);
    says(14, "OP: < or >.");
    due(read("pay 1 if week 0 < 0"), 0);
    due(read("pay 1 if week 0 > 0"), 0);
    for (String op : new String[] {"=", "<=", ">=", "<>", "", "{", ";", "?"}) {
      due(read("pay 1 if week 0 " + op + " 0"), op.length() == 2 ? -27 : -26);
    }
  }

  /** A number of 1 up to most digits is one, one of none or of one digit more has its FAULT there. */
  private static void digits(String head, String rest, int most) {
    String begin = head.replace("#", "");
    due(read(begin + rest), -10 - begin.length());
    for (int n = 1; n <= most; n++) due(read(begin + "0001".substring(4 - n) + rest), 0);
    due(read(begin + "00001".substring(4 - most) + rest), -10 - begin.length() - most);
    for (String wrong : new String[] {"-1", "/", ":", "x"}) {
      due(read(begin + wrong + rest), -10 - begin.length());
    }
  }

  private static void cases() {
    says(14, "up to 4 CASES with and between");
    String text = "pay 1 if week 0 < 1";
    for (int n = 1; n <= 4; n++) {
      due(read(text), 0);
      due(read(text + " "), n < 4 ? -11 - text.length() : -10 - text.length());
      due(read(text + " and"), n < 4 ? -14 - text.length() : -10 - text.length());
      due(read(text + " or dry 0 to 1 < 1"), n < 4 ? -11 - text.length() : -10 - text.length());
      text = text + " and dry 0 to 1 < 1";
    }
    due(read(text), -10 - "pay 1 if week 0 < 1".length() - 3 * " and dry 0 to 1 < 1".length());
    due(read("rate 1 per 1 below 1 of sum 0 to 1 max 1 and week 0 < 1"), -50);
    due(read("pay 1 if week 0 < 1 and pay 1"), -34);
    due(read("pay 1 and week 0 < 1"), -16);
  }

  private static void faultsAtEachPlace() {
    says(14, "-10 less the FAULT;", "The FAULT is the place of the first byte with which none begins so");
    for (String sound : SOUND) {
      for (int place = 0; place < sound.length(); place++) {
        String begin = sound.substring(0, place);
        for (char wrong : new char[] {'#', 'P', 0, 1, 128, 255}) due(read(begin + wrong), -10 - place);
        if (place < 99) due(read(begin + "##"), -10 - place);
      }
      if (sound.length() < 100) due(read(sound + "#"), -10 - sound.length());
    }
    everyByteAtEachPlace("pay 12 if green 3 to 10 < 5 and sum 0 to 1 > 2");
    everyByteAtEachPlace("rate 1234 per 5 below 67 of sum 8 to 11 max 90");
    everyByteAtEachPlace("pay 1 if dry 3 to 4 < 5 and week 6 > 7");
  }

  /** Model looks for the FAULT by trying which beginnings of the text some TERM could have. */
  private static void everyByteAtEachPlace(String sound) {
    for (int place = 0; place <= sound.length(); place++) {
      for (char sign = 0; sign < 256; sign++) {
        String text = sound.substring(0, place) + sign;
        Model model = new Model();
        for (int i = 0; i < text.length(); i++) model.feed(text.charAt(i), 1);
        due(read(text), model.term());
      }
    }
  }

  private static void faultsAtTheEnd() {
    says(14, "(the end of THE TAPE, if it ends too early)");
    due(new RainCover().term(), -10);
    String[] whole = {"pay 1 if week 0 > 1", "pay 1 if sum 0 to 1 < 2", "pay 1 if dry 0 to 1 < 2",
      "pay 1 if green 0 to 1 < 2", "rate 1 per 2 below 3 of sum 4 to 5 max 6"};
    for (String text : whole) {
      for (int end = 0; end < text.length(); end++) due(read(text.substring(0, end)), -10 - end);
      due(read(text), 0);
    }
    RainCover c = new RainCover();
    String tooLong = "pay 9999 if green 00 to 11 < 9999 and green 00 to 11 < 9999 and green 00 to 11 < 9999";
    Check.feed(c, tooLong + " and green 00 ");
    due(c.feed('t', 1), 100);
    due(c.term(), -110);
    due(c.count(8), 0);
  }

  private static void badTexts() {
    says(14, "BAD.", "One with a WEEK above 11, A above B, or K 0, is none (BAD).", "(THE TAPE is empty then.)");
    String[][] soundAndBad = {
      {"pay 1 if week 11 > 0", "pay 1 if week 12 > 0"},
      {"pay 1 if week 00 > 0", "pay 1 if week 99 > 0"},
      {"pay 1 if sum 11 to 11 > 0", "pay 1 if sum 11 to 12 > 0"},
      {"pay 1 if dry 0 to 11 > 0", "pay 1 if dry 0 to 12 > 0"},
      {"pay 1 if green 10 to 11 > 0", "pay 1 if green 12 to 12 > 0"},
      {"pay 1 if sum 5 to 5 > 0", "pay 1 if sum 5 to 4 > 0"},
      {"pay 1 if dry 0 to 0 > 0", "pay 1 if dry 1 to 0 > 0"},
      {"pay 1 if green 09 to 9 > 0", "pay 1 if green 10 to 9 > 0"},
      {"rate 1 per 1 below 1 of sum 11 to 11 max 1", "rate 1 per 1 below 1 of sum 11 to 12 max 1"},
      {"rate 1 per 1 below 1 of sum 7 to 7 max 1", "rate 1 per 1 below 1 of sum 7 to 6 max 1"},
      {"rate 1 per 1 below 1 of sum 0 to 1 max 1", "rate 1 per 0 below 1 of sum 0 to 1 max 1"},
      {"rate 0 per 0001 below 0 of sum 0 to 0 max 0", "rate 1 per 0000 below 1 of sum 0 to 1 max 1"},
      {"pay 0 if week 0 > 0", "pay 1 if week 1 > 1 and week 12 > 0"},
      {"pay 1 if week 0 < 0 and week 1 < 0", "pay 1 if week 1 > 1 and week 1 > 0 and sum 2 to 1 > 0"},
      {"pay 1 if dry 0 to 11 < 9999", "pay 1 if week 1 > 1 and week 1 > 0 and week 1 > 2 and dry 2 to 1 > 0"},
    };
    for (String[] pair : soundAndBad) {
      RainCover c = new RainCover();
      due(Check.term(c, pair[1]), BAD);
      due(c.count(8), 0);
      due(c.count(2), 0);
      due(Check.term(c, pair[0]), 0);
      due(c.count(8), 0);
    }
    RainCover c = new RainCover();
    due(Check.term(c, "pay 1 if week 12 > "), -29);
    due(c.count(8), 0);
    due(Check.term(c, "rate 1 per 0 below x"), -29);
    due(Check.term(c, "pay 1 if sum 5 to 4 > 0 and x"), -38);
    due(c.term(), -10);
    due(c.count(2), 0);
  }

  private static void termFull() {
    says(14, "FULL (it stays): ahead of the others.", "TERMS 0 .. 7, as they come.");
    RainCover c = new RainCover();
    for (int i = 0; i < 8; i++) due(Check.term(c, "pay " + i + " if week 0 < 1"), i);
    due(c.term(), FULL);
    due(c.count(8), 0);
    Check.feed(c, BELOW_100);
    for (int i = 0; i < 2; i++) {
      due(c.term(), FULL);
      due(c.count(8), BELOW_100.length());
    }
    c.feed('#', 1);
    due(c.term(), FULL);
    due(c.count(8), BELOW_100.length() + 1);
    due(c.count(2), 8);
    c.gauge(0, 0, 0);
    for (int i = 0; i < 8; i++) due(c.pay(i, 0, 0, 0, 0), i);
    due(c.pay(8, 0, 0, 0, 0), NONE);
    RainCover bad = new RainCover();
    for (int i = 0; i < 8; i++) Check.term(bad, BELOW_100);
    Check.feed(bad, "pay 1 if week 12 < 1");
    due(bad.term(), FULL);
    due(bad.count(8), 20);
  }

  /** One GAUGE, in DISTRICT 2, and TERMS. */
  private static RainCover ready(String... terms) {
    RainCover c = new RainCover();
    c.gauge(50, 0, 0);
    for (String term : terms) Check.term(c, term);
    return c;
  }

  private static void payRefused() {
    says(15, "NONE: no such TERM, GAUGE, SEASON; BAD.", "PLANT (0 .. 5), CROP (0 .. 3)");
    range(0, 0, NONE, term -> ready(BELOW_100).pay(term, 0, 0, 0, 0));
    range(0, 0, NONE, gauge -> ready(BELOW_100).pay(0, gauge, 0, 0, 0));
    range(0, 15, NONE, season -> ready(BELOW_100).pay(0, 0, season, 0, 0));
    range(0, 5, BAD, plant -> ready(BELOW_100).pay(0, 0, 0, plant, 0));
    range(0, 3, BAD, crop -> ready(BELOW_100).pay(0, 0, 0, 0, crop));
    due(ready(BELOW_100).pay(1, 0, 0, 6, 0), NONE);
    due(ready(BELOW_100).pay(0, 1, 0, 0, 4), NONE);
    due(ready(BELOW_100).pay(0, 0, 16, -1, -1), NONE);
    due(ready().pay(0, 0, 0, 0, 0), NONE);
    due(new RainCover().pay(0, 0, 0, 0, 0), NONE);
  }

  private static void payBySum() {
    says(15, "SUM: of what is FILLED in all that count.", "CASE: sum: SUM OP N;");
    RainCover c = ready("pay 7 if sum 1 to 3 < 100", "pay 8 if sum 1 to 3 > 100", "pay 9 if sum 0 to 11 > 9999",
        "pay 5 if sum 5 to 5 < 1");
    c.rain(0, 0, 0, 500);
    c.rain(0, 0, 4, 500);
    int[][] sums = {{0, 7, 0}, {99, 7, 0}, {100, 0, 0}, {101, 0, 8}, {9999, 0, 8}};
    for (int[] sum : sums) {
      c.rain(0, 0, 3, sum[0]);
      due(c.pay(0, 0, 0, 0, 0), sum[1]);
      due(c.pay(1, 0, 0, 0, 0), sum[2]);
    }
    c.rain(0, 0, 3, 0);
    c.rain(0, 0, 1, 99);
    due(c.pay(0, 0, 0, 0, 0), 7);
    c.rain(0, 1, 2, 1);
    due(c.pay(0, 0, 0, 0, 0), 0);
    due(c.pay(1, 0, 0, 0, 0), 0);
    c.rain(0, 1, 2, 2);
    due(c.pay(1, 0, 0, 0, 0), 8);
    c.rain(0, 0, 5, 0);
    due(c.pay(3, 0, 0, 0, 0), 5);
    c.rain(0, 0, 5, 1);
    due(c.pay(3, 0, 0, 0, 0), 0);
    for (int week = 0; week < 12; week++) c.rain(0, 2, week, 9999);
    due(c.pay(2, 0, 2, 0, 0), 9);
  }

  private static void payByDry() {
    says(15, "DRY: the greatest number of WEEKS that follow one another, count, and are FILLED with less than "
        + "DRYNESS of the CROP.", "dry: DRY OP N;", "DRYNESS 100, 80, 120, 60.");
    int[] dryness = {100, 80, 120, 60};
    for (int crop = 0; crop < 4; crop++) {
      RainCover c = ready("pay 1 if dry 2 to 2 > 0");
      int[] rain = {0, dryness[crop] - 1, dryness[crop], dryness[crop] + 1};
      int[] pay = {1, 1, 0, 0};
      for (int i = 0; i < rain.length; i++) {
        c.rain(0, 0, 2, rain[i]);
        due(c.pay(0, 0, 0, 0, crop), pay[i]);
      }
    }
    String[] terms = new String[8];
    for (int n = 0; n < 8; n++) terms[n] = "pay 1 if dry 1 to 10 > " + n;
    // Three dry weeks, then a wet one, then four, a wet one, one more; all beside the span are dry, too.
    int[][] rows = {{0, 0, 0, 0, 100, 0, 0, 0, 0, 100, 0, 0}, {0, 100, 100, 100, 100, 100, 100, 100, 100, 100, 100, 0},
      {0, 100, 0, 100, 0, 100, 0, 100, 0, 100, 0, 0}, {0, 0, 0, 0, 0, 0, 0, 100, 100, 100, 100, 0},
      {0, 100, 100, 100, 0, 0, 0, 0, 0, 0, 0, 0}};
    int[] longest = {4, 0, 1, 6, 7};
    for (int row = 0; row < rows.length; row++) {
      RainCover c = ready(terms);
      Check.season(c, 0, 0, rows[row]);
      for (int n = 0; n < 8; n++) due(c.pay(n, 0, 0, 0, 0), longest[row] > n ? 1 : 0);
    }
    RainCover c = ready("pay 1 if dry 0 to 11 > 11", "pay 1 if dry 0 to 11 < 12", "pay 1 if dry 0 to 11 < 13",
        "pay 1 if dry 0 to 11 > 12");
    due(c.pay(0, 0, 0, 0, 0), 1);
    due(c.pay(1, 0, 0, 0, 0), 0);
    due(c.pay(2, 0, 0, 0, 0), 1);
    due(c.pay(3, 0, 0, 0, 0), 0);
    c.rain(0, 1, 5, 100);
    due(c.pay(0, 0, 0, 0, 0), 0);
    c.rain(0, 0, 5, 99);
    due(c.pay(0, 0, 0, 0, 0), 1);
  }

  private static void payByGreen() {
    says(15, "green: the greatest GREEN of the GAUGE's DISTRICT in the WEEKS that count and are no GAPS OP N (not "
        + "so, if there are none);");
    RainCover c = ready("pay 3 if green 2 to 4 < 50", "pay 4 if green 2 to 4 > 50", "pay 5 if green 3 to 3 < 1",
        "pay 6 if green 3 to 3 > 0", "pay 7 if green 0 to 11 < 9999");
    for (int term = 0; term < 5; term++) due(c.pay(term, 0, 0, 0, 0), 0);
    c.green(1, 0, 3, 0);
    c.green(3, 0, 3, 0);
    c.green(2, 1, 3, 0);
    for (int term = 0; term < 5; term++) due(c.pay(term, 0, 0, 0, 0), 0);
    c.green(2, 0, 1, 100);
    c.green(2, 0, 5, 100);
    due(c.pay(0, 0, 0, 0, 0), 0);
    due(c.pay(4, 0, 0, 0, 0), 7);
    int[][] greens = {{0, 3, 0, 5, 0}, {1, 3, 0, 0, 6}, {49, 3, 0, 0, 6}, {50, 0, 0, 0, 6}, {51, 0, 4, 0, 6},
      {100, 0, 4, 0, 6}, {-1, 0, 0, 0, 0}};
    for (int[] green : greens) {
      c.green(2, 0, 3, green[0]);
      for (int term = 0; term < 4; term++) due(c.pay(term, 0, 0, 0, 0), green[term + 1]);
    }
    c.green(2, 0, 2, 51);
    c.green(2, 0, 4, 10);
    due(c.pay(1, 0, 0, 0, 0), 4);
    c.green(2, 0, 2, -1);
    due(c.pay(1, 0, 0, 0, 0), 0);
    due(c.pay(0, 0, 0, 0, 0), 3);
  }

  private static void payByWeek() {
    says(15, "week: what is FILLED OP N (not so, if it does not count).");
    RainCover c = ready("pay 3 if week 7 < 50", "pay 4 if week 7 > 50", "pay 5 if week 7 < 0", "pay 6 if week 7 > 9998",
        "pay 7 if week 7 < 1", "pay 8 if week 7 > 0");
    int[][] rains = {{0, 3, 0, 0, 0, 7, 0}, {1, 3, 0, 0, 0, 0, 8}, {49, 3, 0, 0, 0, 0, 8}, {50, 0, 0, 0, 0, 0, 8},
      {51, 0, 4, 0, 0, 0, 8}, {9999, 0, 4, 0, 6, 0, 8}, {-1, 3, 0, 0, 0, 7, 0}};
    for (int[] rain : rains) {
      c.rain(0, 0, 7, rain[0]);
      for (int term = 0; term < 6; term++) due(c.pay(term, 0, 0, 0, 0), rain[term + 1]);
    }
    c.rain(0, 3, 7, 51);
    due(c.pay(1, 0, 0, 0, 0), 4);
    due(c.pay(0, 0, 0, 4, 0), 3);
    for (int term = 0; term < 6; term++) due(c.pay(term, 0, 0, 5, 0), 0);
  }

  private static void payByCases() {
    says(15, "PAY of a pay TERM: N if all CASES are so, else 0;");
    RainCover c = ready("pay 9999 if week 0 < 1 and week 1 < 1 and week 2 < 1 and week 3 < 1", "pay 0 if week 0 < 1",
        "pay 1 if week 0 < 1 and week 0 > 1");
    due(c.pay(0, 0, 0, 0, 0), 9999);
    due(c.pay(1, 0, 0, 0, 0), 0);
    due(c.pay(2, 0, 0, 0, 0), 0);
    for (int week = 0; week < 4; week++) {
      c.rain(0, 0, week, 1);
      due(c.pay(0, 0, 0, 0, 0), 0);
      c.rain(0, 0, week, 0);
      due(c.pay(0, 0, 0, 0, 0), 9999);
    }
  }

  private static void payByRate() {
    says(15, "of a rate TERM: N for each whole K that SUM is below M, but P at most.");
    RainCover c = ready("rate 5 per 10 below 100 of sum 0 to 1 max 33", "rate 5 per 10 below 100 of sum 0 to 1 max 25",
        "rate 9999 per 1 below 9999 of sum 0 to 1 max 9999", "rate 7 per 101 below 100 of sum 0 to 1 max 99",
        "rate 7 per 100 below 100 of sum 0 to 1 max 99", "rate 0 per 1 below 100 of sum 0 to 1 max 99",
        "rate 7 per 1 below 0 of sum 0 to 1 max 99", "rate 7 per 1 below 100 of sum 0 to 1 max 0");
    int[][] sums = {{0, 33, 25, 9999, 0, 7}, {1, 33, 25, 9999, 0, 0}, {30, 33, 25, 9999, 0, 0},
      {31, 30, 25, 9999, 0, 0}, {40, 30, 25, 9999, 0, 0}, {50, 25, 25, 9999, 0, 0}, {51, 20, 20, 9999, 0, 0},
      {90, 5, 5, 9999, 0, 0}, {91, 0, 0, 9999, 0, 0}, {99, 0, 0, 9999, 0, 0}, {100, 0, 0, 9999, 0, 0},
      {101, 0, 0, 9999, 0, 0}, {9998, 0, 0, 9999, 0, 0}, {9999, 0, 0, 0, 0, 0}};
    for (int[] sum : sums) {
      c.rain(0, 0, 1, sum[0]);
      for (int term = 0; term < 8; term++) due(c.pay(term, 0, 0, 0, 0), term < 5 ? sum[term + 1] : 0);
    }
    c.rain(0, 0, 0, 9999);
    for (int term = 0; term < 8; term++) due(c.pay(term, 0, 0, 0, 0), 0);
  }

  private static void payBeyondTheLastWeek() {
    says(15, "By a GAUGE, SEASON, PLANT p and CROP, as known at k: WEEK w of a TERM is WEEK w + p; those beyond 11 "
        + "do not count.");
    RainCover c = ready("rate 1 per 1 below 9999 of sum 7 to 11 max 9999", "pay 1 if sum 7 to 11 < 1",
        "pay 1 if dry 7 to 11 > 0", "pay 1 if dry 7 to 11 < 1", "pay 1 if green 7 to 11 < 9999",
        "pay 1 if green 7 to 11 > 0", "pay 1 if week 7 < 9999", "pay 1 if week 7 > 0");
    for (int week = 0; week < 12; week++) {
      c.rain(0, 0, week, week < 7 ? 1000 : week);
      c.green(2, 0, week, week < 7 ? 0 : week);
    }
    int[] sums = {7 + 8 + 9 + 10 + 11, 8 + 9 + 10 + 11, 9 + 10 + 11, 10 + 11, 11, 0};
    for (int plant = 0; plant < 6; plant++) {
      boolean some = plant < 5;
      due(c.pay(0, 0, 0, plant, 0), 9999 - sums[plant]);
      due(c.pay(1, 0, 0, plant, 0), some ? 0 : 1);
      due(c.pay(2, 0, 0, plant, 0), some ? 1 : 0);
      due(c.pay(3, 0, 0, plant, 0), some ? 0 : 1);
      for (int term = 4; term < 8; term++) due(c.pay(term, 0, 0, plant, 0), some ? 1 : 0);
    }
    RainCover d = ready("pay 1 if dry 0 to 11 > 6", "pay 1 if dry 0 to 11 > 7",
        "rate 1 per 1 below 999 of sum 0 to 0 max 999");
    for (int week = 0; week < 12; week++) d.rain(0, 0, week, week);
    due(d.pay(0, 0, 0, 5, 0), 1);
    due(d.pay(1, 0, 0, 5, 0), 0);
    for (int plant = 0; plant < 6; plant++) due(d.pay(2, 0, 0, plant, 0), 999 - plant);
  }

  private static void payNow() {
    says(15, "PAY of a TERM by a GAUGE, SEASON,", "as known now.");
    RainCover c = ready(BELOW_100);
    c.gauge(99, 99, 0);
    due(c.pay(0, 0, 0, 0, 0), 100);
    c.rain(0, 15, 0, 10);
    due(c.pay(0, 0, 15, 0, 0), 90);
    due(c.pay(0, 0, 0, 0, 0), 90);
    due(c.pay(0, 1, 15, 0, 0), 100);
    c.rain(0, 15, 0, 40);
    due(c.pay(0, 0, 15, 0, 0), 60);
    c.rain(0, 15, 0, -1);
    due(c.pay(0, 0, 15, 0, 0), 100);
  }
}
