import java.util.function.IntToLongFunction;

/** What the tests of boundary cases share: each answer is held against a sentence of the document that it quotes. */
abstract class Edges {
  static final int NONE = RainCover.NONE, BAD = RainCover.BAD, STATE = RainCover.STATE, FULL = RainCover.FULL;
  static final long NO = RainCover.NO;
  static final int LOWEST = Integer.MIN_VALUE, HIGHEST = Integer.MAX_VALUE;
  /** Pays what the rain of week 0 is below 100. */
  static final String BELOW_100 = "rate 1 per 1 below 100 of sum 0 to 0 max 100";

  private static final Document DOCUMENT = Document.read();
  private static int promise = 0;
  private static String sentence = "";
  private static int asked = 0;
  private static int askedBefore = -1;
  private static int sentences = 0;
  private static int wrong = 0;

  /** What follows holds these sentences of a promise, or of the terms that it is read with. */
  static void says(int ofPromise, String... words) {
    endSentence();
    promise = ofPromise;
    sentence = String.join(" / ", words);
    askedBefore = asked;
    sentences += words.length;
    for (String one : words) {
      if (!DOCUMENT.quote(promise, one)) fail("the document does not say \"" + one + "\"");
    }
  }

  private static void endSentence() {
    if (asked == askedBefore) fail("no answer is held against it");
  }

  static void due(long got, long want) {
    asked++;
    if (got != want) fail("answered " + got + ", due is " + want);
  }

  /** Answers for numbers just outside and far outside least .. most are wrong ones, those for its ends are not. */
  static void range(int least, int most, long refused, IntToLongFunction call) {
    from(least, refused, call);
    for (int v : new int[] {most + 1, HIGHEST}) outside(v, refused, call);
    inside(most, refused, call);
  }

  /** As range(), without an upper end. */
  static void from(int least, long refused, IntToLongFunction call) {
    for (int v : new int[] {LOWEST, least - 1}) outside(v, refused, call);
    inside(least, refused, call);
  }

  private static void outside(int v, long refused, IntToLongFunction call) {
    asked++;
    long got = call.applyAsLong(v);
    if (got != refused) fail("with " + v + " answered " + got + ", due is " + refused);
  }

  private static void inside(int v, long refused, IntToLongFunction call) {
    asked++;
    if (call.applyAsLong(v) == refused) fail("with " + v + " answered " + refused + ", as if it were none such");
  }

  private static void fail(String what) {
    wrong++;
    String place = StackWalker.getInstance().walk(frames -> frames
        .filter(f -> !f.getClassName().equals("Edges")).findFirst().get().toStackTraceElement().toString());
    System.out.println("promise " + promise + ", \"" + sentence + "\": " + what + " (" + place + ")");
  }

  static void end() {
    endSentence();
    for (String left : DOCUMENT.unquoted()) {
      wrong++;
      System.out.println("no test holds " + left);
    }
    System.out.println(sentences + " sentences, " + asked + " answers, " + wrong + " not as due");
    if (wrong != 0) System.exit(1);
  }
}
