/** Compares answers with what is due, and ends a test with exit code 1 if one differed. */
final class Check {
  private static int asked = 0;
  private static int wrong = 0;

  private Check() {
  }

  static void due(String call, long got, long want) {
    asked++;
    if (got == want) return;
    wrong++;
    System.out.println(call + " answered " + got + ", due is " + want);
  }

  /** Feeds a text and reads it as a TERM. */
  static int term(RainCover cover, String text) {
    feed(cover, text);
    return cover.term();
  }

  static void feed(RainCover cover, String text) {
    for (int i = 0; i < text.length(); i += 4) {
      int n = Math.min(4, text.length() - i);
      int bytes = 0;
      for (int j = i; j < i + n; j++) bytes = bytes << 8 | text.charAt(j);
      cover.feed(bytes, n);
    }
  }

  /** Tells the RAIN of all 12 WEEKS, those without a number being GAPS. */
  static void season(RainCover cover, int gauge, int season, int... rain) {
    for (int week = 0; week < 12; week++) cover.rain(gauge, season, week, week < rain.length ? rain[week] : -1);
  }

  /** Tells the same RAIN in all 12 WEEKS. */
  static void even(RainCover cover, int gauge, int season, int rain) {
    for (int week = 0; week < 12; week++) cover.rain(gauge, season, week, rain);
  }

  /** How many of m rows last, by throws of YEARS and what each of these leaves; z[0] goes on. */
  static int lasting(int[] z, long reserve, int[] leaves, int n, int m) {
    int rows = 0;
    for (int i = 0; i < m; i++) {
      long rest = reserve;
      long least = reserve;
      for (int j = 0; j < n; j++) {
        z[0] = z[0] * 1103515245 + 12345;
        rest += leaves[(z[0] >>> 8) % leaves.length];
        least = Math.min(least, rest);
      }
      if (least >= 0) rows++;
    }
    return rows;
  }

  static void end() {
    System.out.println(asked + " answers, " + wrong + " not as due");
    if (wrong != 0) System.exit(1);
  }
}
