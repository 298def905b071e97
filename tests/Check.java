import java.util.function.IntToLongFunction;

/** What the edge tests share: each answer is held against the one that is due, under the sentence it is tested for. */
final class Check {
  static final int BAD = -1, NOT = -2, FULL = -3, STATE = -5, VOID = -2000000000;
  static final int NOTHING = -11, OTHER_KIND = -12, NO_PLACE = -13, BELOW_0 = -14;
  static final long NONE = Long.MIN_VALUE;
  static final int MIN = Integer.MIN_VALUE, MAX = Integer.MAX_VALUE;

  private static int wrong;
  private static int asked;
  private static String sentence = "";

  private Check() { }

  /** The document's words that the next answers are due by. */
  static void says(String words) { sentence = words; }

  static void due(String call, long got, long want) {
    asked++;
    if (got == want) return;
    wrong++;
    System.out.println("\"" + sentence + "\": " + call + " answered " + got + ", due is " + want);
  }

  /** From least to most it is as said, on either side it is refused: next to the edge, and as far as ints go. */
  static void range(String call, IntToLongFunction answer, int least, int most, long refusal) {
    for (int v : new int[] {least - 1, MIN, MIN + 1, most + 1, MAX, MAX - 1}) due(call + " of " + v, answer.applyAsLong(v), refusal);
    for (int v : new int[] {least, most}) {
      asked++;
      if (answer.applyAsLong(v) != refusal) continue;
      wrong++;
      System.out.println("\"" + sentence + "\": " + call + " of " + v + " was refused");
    }
  }

  /** A row of bytes on a shelf. */
  static void tell(LeftAsFound x, int shelf, int... bytes) {
    due("row", x.row(shelf, 0, bytes.length), 1);
    for (int i = 0; i < bytes.length; i++) due("put", x.put(shelf, i, bytes[i]), 1);
  }

  /** A row of n bytes, all alike but for one place. */
  static void tellBut(LeftAsFound x, int shelf, int n, int all, int place, int but) {
    int[] bytes = new int[n];
    for (int i = 0; i < n; i++) bytes[i] = i == place ? but : all;
    tell(x, shelf, bytes);
  }

  static int enact(LeftAsFound x, String text) {
    for (int i = 0; i < text.length(); i++) due("feed", x.feed(text.charAt(i)), i + 1);
    return x.law();
  }

  /** A hut with so many guests; each takes nothing and never sees that it lacks. */
  static LeftAsFound with(int guests) {
    LeftAsFound x = new LeftAsFound();
    for (int g = 0; g < guests; g++) due("guest", x.guest(0, 50), g);
    return x;
  }

  /** A hut with one guest who takes so much of all things and never sees that it lacks. */
  static LeftAsFound taker(int takes) {
    LeftAsFound x = new LeftAsFound();
    due("guest", x.guest(takes, 50), 0);
    return x;
  }

  static void setAll(LeftAsFound x, int level) {
    for (int thing = 0; thing < 4; thing++) x.set(thing, level);
  }

  static void end(String name) {
    System.out.println(wrong == 0 ? name + ": all " + asked + " answers are as due" : wrong + " answers are not as due");
    if (wrong != 0) System.exit(1);
  }
}
