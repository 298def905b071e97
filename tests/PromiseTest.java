/** The promises one by one: ordinary inputs, the edges that the document names, and wrong inputs; worked out by hand. */
public final class PromiseTest {
  private static int wrong;
  private static int promise;
  private static final long NONE = Long.MIN_VALUE;
  private static final int[] FAR = {-1, Integer.MIN_VALUE, Integer.MAX_VALUE};

  private static void due(String call, long got, long want) {
    if (got != want) {
      wrong++;
      System.out.println("promise " + promise + ": " + call + " answered " + got + ", due is " + want);
    }
  }

  /** A row of bytes on a shelf. */
  private static void tell(LeftAsFound x, int shelf, int... bytes) {
    due("row", x.row(shelf, 0, bytes.length), 1);
    for (int i = 0; i < bytes.length; i++) due("put", x.put(shelf, i, bytes[i]), 1);
  }

  private static int enact(LeftAsFound x, String text) {
    for (int i = 0; i < text.length(); i++) due("feed", x.feed(text.charAt(i)), i + 1);
    return x.law();
  }

  /** Guest 0 takes 2 of all, guest 1 takes 1 and brings 10 of thing 0, by the picture, if more than 3 lack. */
  private static LeftAsFound pair() {
    LeftAsFound x = new LeftAsFound();
    due("guest", x.guest(2, 50), 0);
    due("guest", x.guest(1, 3), 1);
    due("mend", x.mend(10, 3, 10), 0);
    due("mend", x.mend(1, 5, 2), 0);
    return x;
  }

  /** Shelf 0 is empty, 1 holds shorts, 2 a body, 3 no nights. */
  private static LeftAsFound wrongShelves() {
    LeftAsFound x = pair();
    due("row", x.row(1, 1, 3), 1);
    due("body", x.body(0), 0);
    due("keep", x.keep(2, 0), 1);
    due("row", x.row(3, 0, 0), 1);
    return x;
  }

  private static void aNewObject() {
    LeftAsFound x = new LeftAsFound();
    for (int what = 0; what < 6; what++) due("count", x.count(what), 0);
    for (int thing = 0; thing < 4; thing++) {
      due("OUGHT", x.of(thing, 0), 50);
      due("WORTH", x.of(thing, 1), 1);
      due("LEVEL", x.of(thing, 10), 50);
      due("BOOK", x.of(thing, 11), 50);
    }
    due("RULE", x.of(0, 6), 50);
    due("PRICE", x.of(0, 7), 20);
    due("HONEST", x.of(0, 8), 6);
    for (int shelf = 0; shelf < 6; shelf++) due("taken", x.taken(shelf, 0), -11);
    due("back", x.back(), -5);
    due("undo", x.undo(), -5);
    due("redo", x.redo(), -5);
    due("trace", x.trace(0), -1);
  }

  private static void guest() {
    LeftAsFound x = new LeftAsFound();
    due("guest takes -1", x.guest(-1, 0), -1);
    due("guest takes 10", x.guest(10, 0), -1);
    due("guest sees -1", x.guest(0, -1), -1);
    due("guest sees 51", x.guest(0, 51), -1);
    due("count", x.count(0), 0);
    due("guest", x.guest(9, 50), 0);
    due("guest", x.guest(0, 0), 1);
    for (int thing = 0; thing < 4; thing++) {
      due("takes", x.of(thing, 2), 9);
      due("takes", x.of(10 + thing, 2), 0);
      due("brings", x.of(thing, 3), 0);
    }
    due("sees", x.of(0, 4), 50);
    due("believes", x.of(0, 5), 0);
    for (int i = 2; i < 7; i++) due("guest", x.guest(1, 1), i);
    due("guest", x.guest(1, 1), -3);
    due("guest", x.guest(10, 1), -1);
    due("count", x.count(0), 7);
    due("no change", x.count(3), 0);
  }

  private static void guestsFromARow() {
    LeftAsFound x = new LeftAsFound();
    tell(x, 0, 9, 50, 3, 1, 2, 0, 10, 0, 0, 1, 1, 1);
    due("one is wrong", x.guests(0, 0, 7), 2);
    due("takes", x.of(3, 2), 9);
    due("sees", x.of(0, 4), 50);
    due("believes", x.of(0, 5), 3);
    due("believes", x.of(1, 5), 0);
    due("wrong at once", x.guests(0, 6, 1), 0);
    due("ends within a three", x.guests(0, 10, 1), 0);
    due("ends at once", x.guests(0, 12, 1), 0);
    due("far behind", x.guests(0, Integer.MAX_VALUE, 1), 0);
    due("the last three", x.guests(0, 9, 7), 1);
    tell(x, 1, 0, 51, 0);
    due("sees 51", x.guests(1, 0, 1), 0);
    tell(x, 1, 0, 0, 4);
    due("believes 4", x.guests(1, 0, 1), 0);
    tell(x, 1, 0, -1, 0);
    due("sees -1", x.guests(1, 0, 1), 0);
    due("missing", x.guests(5, 0, 1), 0);
    due("shorts", x.row(5, 1, 3), 1);
    due("shorts", x.guests(5, 0, 1), -12);
    due("body", x.body(1), 0);
    due("keep", x.keep(5, 0), 1);
    due("a body", x.guests(5, 0, 1), -12);
    due("shelf 6", x.guests(6, 0, 1), -1);
    due("shelf -1", x.guests(-1, 0, 1), -1);
    due("place -1 is not there", x.guests(0, -1, 1), 0);
    due("place -3 is not there", x.guests(0, -3, 2), 0);
    due("bad ahead of that", x.guests(0, -1, 0), -1);
    due("n 0", x.guests(5, 0, 0), -1);
    due("n 8", x.guests(5, 0, 8), -1);
    due("three came", x.count(0), 3);
    due("row of 21", x.row(4, 0, 21), 1);
    due("as many as are told", x.guests(4, 0, 1), 1);
    due("till full", x.guests(4, 0, 7), 3);
    due("full", x.guests(4, 0, 7), 0);
    due("count", x.count(0), 7);
  }

  private static void mend() {
    LeftAsFound x = pair();
    int[] tops = {99, 9, 9, 20, 50, 3, 50, 999, 12};
    for (int what = 0; what < 9; what++) {
      int was = x.of(0, what);
      due("mend " + what + " to -1", x.mend(0, what, -1), -1);
      due("mend " + what + " above", x.mend(0, what, tops[what] + 1), -1);
      due("mend " + what, x.mend(0, what, tops[what]), was);
      due("of " + what, x.of(0, what), tops[what]);
      due("mend " + what, x.mend(0, what, 0), tops[what]);
      due("of " + what, x.of(0, what), 0);
      for (int far : FAR) due("mend far", x.mend(far, what, 1), -1);
    }
    for (int what = 0; what < 2; what++) due("thing 4", x.mend(4, what, 1), -1);
    for (int what = 2; what < 4; what++) {
      due("guest 2", x.mend(20, what, 1), -1);
      due("thing 4 of guest 0", x.mend(4, what, 1), -1);
      due("thing 3 of guest 1", x.mend(13, what, 5), what == 2 ? 1 : 0);
      due("the others stay", x.of(12, what), what == 2 ? 1 : 0);
    }
    for (int what = 4; what < 6; what++) due("guest 2", x.mend(2, what, 1), -1);
    for (int what = 6; what < 9; what++) due("number 1", x.mend(1, what, 1), -1);
    due("what 9", x.mend(0, 9, 0), -1);
    due("what 10", x.mend(0, 10, 0), -1);
    due("what -1", x.mend(0, -1, 0), -1);
    int changes = x.count(3);
    due("the same", x.mend(13, 2, 5), 5);
    due("is no change", x.count(3), changes);
  }

  private static void of() {
    LeftAsFound x = pair();
    due("takes", x.of(0, 2), 2);
    due("brings", x.of(10, 3), 10);
    due("sees", x.of(1, 4), 3);
    due("believes", x.of(1, 5), 2);
    due("never", x.of(0, 12), -2);
    due("set", x.set(3, 77), 50);
    due("level", x.of(3, 10), 77);
    due("book", x.of(3, 11), 50);
    due("night", x.night(0), 6);
    due("found", x.of(3, 12), 77);
    due("found", x.of(0, 12), 50);
    due("never", x.of(13, 12), -2);
    due("what 9", x.of(0, 9), -1);
    due("what 13", x.of(0, 13), -1);
    due("what -1", x.of(0, -1), -1);
    due("thing 4", x.of(4, 10), -1);
    due("thing 4", x.of(4, 11), -1);
    due("thing 4", x.of(4, 12), -1);
    due("guest 2", x.of(20, 12), -1);
    due("-1", x.of(-1, 10), -1);
    due("-10", x.of(-10, 12), -1);
    due("number 1", x.of(1, 7), -1);
  }

  private static void feed() {
    LeftAsFound x = new LeftAsFound();
    due("-1", x.feed(-1), -1);
    due("256", x.feed(256), -1);
    due("0", x.feed(0), 1);
    due("255", x.feed(255), 2);
    for (int i = 3; i <= 120; i++) due("feed", x.feed('f'), i);
    due("full", x.feed('f'), -3);
    due("bad ahead of full", x.feed(256), -1);
    due("count", x.count(2), 120);
  }

  /** What a text gives if 40 is found, 47 believed, takes 3, brings 8, sees 4 (rule 50) of thing 2. */
  private static int gives(String text) {
    LeftAsFound x = new LeftAsFound();
    x.guest(3, 4);
    x.mend(2, 3, 8);
    x.mend(0, 5, 2);
    x.mend(2, 0, 47);
    x.set(2, 40);
    due(text, enact(x, text), 1);
    tell(x, 0, 0);
    return x.level(0, 2, 1) - 40;
  }

  private static void law() {
    String[] faults = {"", "f+", "f<o<t", "f<o=t", "12345", "!!!!!!!f", "(((((((f", "-(-(-(-f", "f?o?t", "(f?o)", ";f", "f;", "f f",
        "x", "f)", "()", "f1", "1f", "(f", "f?", "?f", "f?;o", "f|", "f&&o", "f;;o", "+f", "f**o", "f!", "f!o", "(f;o)", "f\u00e9", "F"};
    int[] places = {0, 2, 3, 3, 4, 6, 6, 6, 3, 2, 0, 2, 1, 0, 1, 1, 1, 1, 2, 2, 0, 2, 2, 2, 2, 0, 2, 1, 1, 2, 1, 0};
    for (int i = 0; i < faults.length; i++) {
      LeftAsFound x = new LeftAsFound();
      due("fault of " + faults[i], enact(x, faults[i]), -100 - places[i]);
      due("the tape is empty", x.count(2), 0);
    }
    String[] texts = {"f-39", "o-f", "t", "b", "s", "k", "f-t*b", "f/7", "f%7", "-f/7", "-f%7", "f/0", "f%0", "7|0", "0|0", "7&0", "7&3",
        "!7", "!0", "!!7", "f<o", "o<f", "f>o", "o>f", "f=40", "f=o", "0?5;6", "1?5;6", "0?5", "0?5;k?9;7", "2+3*4", "(2+3)*2", "10-4-3",
        "12/2/3", "9999*9999*9999>0", "21", "-21", "9999", "0-9999", "1|0&0", "1+1=2", "0<1&1", "--5", "-(2+3)", "!f+3", "((((((f))))))-39",
        "!!!!!!f", "-!-!-!f", "-1?7;8", "17%5*2", "1;2;3", "0009", "f<o|f>o?b-t;-t", "3&0|4", "2-1|0", "f<f", "f>f", "0?1|1;0|1", "(0|1)*9", "1?!!!!!!f;0"};
    int[] values = {1, 7, 3, 8, 4, 2, 16, 5, 5, -5, -5, 0, 0, 1, 0, 0, 1,
        0, 1, 1, 1, 0, 0, 1, 1, 0, 6, 5, 0, 9, 14, 10, 3,
        2, 0, 20, -20, 20, -20, 1, 1, 1, 5, -5, 3, 1,
        1, 0, 7, 4, 1, 9, 5, 1, 1, 0, 0, 1, 9, 1};
    for (int i = 0; i < texts.length; i++) due(texts[i], gives(texts[i]), values[i]);
    aLawStays();
  }

  private static void aLawStays() {
    LeftAsFound x = new LeftAsFound();
    x.guest(3, 4);
    tell(x, 0, 0, 0, 0, 0, 0, 0);
    due("without a text", x.level(0, 0, 1), 47);
    due("law", enact(x, "s"), 1);
    due("by the law", x.level(0, 0, 1), 54);
    due("the rule counts", x.mend(0, 6, 2), 50);
    due("by the law", x.level(0, 0, 1), 52);
    due("fault", enact(x, "9+"), -102);
    due("the law stays", x.level(0, 0, 1), 52);
    due("law", enact(x, "20"), 1);
    due("no higher", x.level(0, 0, 6), 99);
    due("law", enact(x, "-20"), 1);
    due("no lower", x.level(0, 0, 6), 0);
    due("laws are no changes", x.count(3), 1);
    StringBuilder longest = new StringBuilder("f");
    while (longest.length() < 119) longest.append("+1");
    due("119 bytes", enact(x, longest.toString()), 1);
    longest.append('+');
    due("120 bytes, too short", enact(x, longest.toString()), -220);
    longest.setLength(0);
    while (longest.length() < 116) longest.append("0?1;");
    due("120 bytes, all lines", enact(x, longest.append("-1?7").toString()), 1);
    due("the last line counts", x.level(0, 0, 1), 57);
    longest.setLength(0);
    while (longest.length() < 118) longest.append("0;");
    due("120 bytes of lines", enact(x, longest.append("01").toString()), 1);
    due("the first line counts", x.level(0, 0, 1), 50);
  }

  private static void believing() {
    LeftAsFound x = new LeftAsFound();
    for (int g = 0; g < 4; g++) {
      x.guest(0, 0);
      x.mend(g * 10, 3, 5);
      x.mend(g, 5, g);
    }
    x.set(0, 30);
    tell(x, 0, 0, 0, 3, 2, 3, 3, 1, 1, 0);
    int[] behind = {30, 30, 30, 30, 35, 40, 45, 50, 50, 50};
    for (int k = 0; k < 10; k++) due("level behind " + k, x.level(0, 0, k), behind[k]);
    tell(x, 1, 3, 9, 3);
    due("the first of all believes the picture", x.level(1, 0, 1), 35);
    due("it stays ahead of an empty night", x.level(1, 0, 3), 40);
    due("set", x.set(0, 48), 30);
    due("no further than what is believed", x.level(1, 0, 1), 50);
    due("mend", x.mend(3, 4, 2), 0);
    due("so many may lack, and it sees nothing", x.level(1, 0, 1), 48);
    due("mend", x.mend(3, 4, 1), 2);
    due("mend", x.mend(30, 2, 9), 0);
    due("mend", x.mend(30, 3, 4), 5);
    due("brings less than it takes", x.level(1, 0, 1), 43);
    due("set", x.set(0, 30), 48);
    due("night by the book", x.night(1), 15);
    due("it writes", x.of(0, 11), 35);
    due("night by the picture", x.night(2), 10);
    due("it does not write", x.of(0, 11), 35);
    due("night by the book", x.night(1), 10);
    due("it writes again", x.of(0, 11), 40);
  }

  private static void level() {
    LeftAsFound x = pair();
    tell(x, 0, 0, 0, 9, 1, -1, 1, 0);
    // thing 0: 48, 46, empty, 46 lacks 4 > 3: 50 at most, empty, 49, 47
    int[] behind = {50, 48, 46, 46, 50, 50, 49, 47};
    for (int k = 0; k < 8; k++) due("level behind " + k, x.level(0, 0, k), behind[k]);
    due("thing 3", x.level(0, 3, 7), 42);
    due("k 8", x.level(0, 0, 8), -1);
    due("k -1", x.level(0, 0, -1), -1);
    due("thing 4", x.level(0, 4, 0), -1);
    due("thing -1", x.level(0, -1, 0), -1);
    due("it was in thought", x.of(0, 10), 50);
    due("nobody was there", x.count(1), 0);
    due("row", x.row(0, 0, 60), 1);
    due("30 count", x.level(0, 0, 30), 0);
    due("31 are too many", x.level(0, 0, 31), -1);
    LeftAsFound y = wrongShelves();
    due("-11", y.level(0, 0, 0), -11);
    due("-12", y.level(1, 0, 0), -12);
    due("-12", y.level(2, 0, 0), -12);
    due("no nights", y.level(3, 0, 0), 50);
    due("no nights", y.level(3, 0, 1), -1);
    for (int far : FAR) due("far", y.level(far, 0, 0), -1);
    due("bad ahead of -11", y.level(0, 4, 0), -1);
    due("bad ahead of -11", y.level(0, 0, -1), -1);
    due("shelf 6", y.level(6, 0, 0), -1);
  }

  private static void lowest() {
    LeftAsFound x = pair();
    tell(x, 0, 0, 0, 0, 1);
    due("lowest", x.lowest(0, 0), 44);
    due("lowest", x.lowest(0, 1), 43);
    x.set(0, 10);
    tell(x, 0, 1);
    due("behind nights alone", x.lowest(0, 0), 19);
    LeftAsFound y = wrongShelves();
    due("as it is", y.lowest(3, 0), 50);
    due("-11", y.lowest(0, 0), -11);
    due("-12", y.lowest(1, 0), -12);
    due("-12", y.lowest(2, 0), -12);
    due("thing 4", y.lowest(0, 4), -1);
    due("shelf 6", y.lowest(6, 0), -1);
  }

  private static void below() {
    LeftAsFound x = pair();
    tell(x, 0, 9, 0, 0, 1);
    due("48 is not below 48", x.below(0, 0, 48), 2);
    due("below", x.below(0, 0, 49), 1);
    due("below", x.below(0, 0, 51), 0);
    due("not", x.below(0, 0, 46), -2);
    due("x 0", x.below(0, 0, 0), -2);
    due("x 99", x.below(0, 0, 99), 0);
    due("x 100", x.below(0, 0, 100), -1);
    due("x -1", x.below(0, 0, -1), -1);
    due("thing 4", x.below(0, 4, 0), -1);
    LeftAsFound y = wrongShelves();
    due("no nights", y.below(3, 0, 99), -2);
    due("-11", y.below(0, 0, 0), -11);
    due("-12", y.below(1, 0, 0), -12);
    due("bad ahead of -11", y.below(0, 0, 100), -1);
    due("shelf 6", y.below(6, 0, 0), -1);
  }

  private static void loss() {
    LeftAsFound x = pair();
    tell(x, 0, 0, 9, 0);
    // by nights: 8, 8, 16
    due("loss", x.loss(0), 32);
    x.mend(1, 1, 5);
    due("by worth", x.loss(0), 32 + 4 * 8);
    x.mend(1, 0, 46);
    due("0 at least", x.loss(0), 24);
    x.mend(2, 1, 0);
    due("worth nothing", x.loss(0), 16);
    LeftAsFound y = wrongShelves();
    due("no nights", y.loss(3), 0);
    due("-11", y.loss(0), -11);
    due("-12", y.loss(1), -12);
    due("-12", y.loss(2), -12);
    due("shelf 6", y.loss(6), -1);
    due("shelf -1", y.loss(-1), -1);
  }

  private static void rest() {
    LeftAsFound x = pair();
    tell(x, 0, 0);
    // 2 less each row: 25 rows, then 0
    due("rows", x.rest(0, 0), 25);
    due("round", x.rest(0, 1), 1);
    due("level", x.rest(0, 2), 0);
    tell(x, 1, 9, 9);
    due("empty nights", x.rest(1, 0), 0);
    due("empty nights", x.rest(1, 1), 1);
    due("empty nights", x.rest(1, 5), 50);
    LeftAsFound z = new LeftAsFound();
    z.guest(1, 0);
    due("law", enact(z, "f<51?3;f=53?4;-7"), 1);
    tell(z, 0, 0);
    // 50, 53, 57, 50: as at first, but then nobody had been there
    due("what was found counts", z.rest(0, 0), 1);
    due("round", z.rest(0, 1), 3);
    due("level", z.rest(0, 3), 53);
    due("night", z.night(0), 0);
    due("rest", z.rest(0, 0), 0);
    due("level", z.rest(0, 3), 53);
    slowRest();
    LeftAsFound y = wrongShelves();
    due("no nights", y.rest(3, 0), 0);
    due("no nights", y.rest(3, 1), 1);
    due("no nights", y.rest(3, 2), 50);
    due("-11", y.rest(0, 0), -11);
    due("-12", y.rest(1, 0), -12);
    due("what 6", y.rest(0, 6), -1);
    due("what -1", y.rest(0, -1), -1);
    due("shelf 6", y.rest(6, 0), -1);
  }

  /** Things go round in rounds of 6, 7, 11: 462 rows are too many, 66 are not. */
  private static void slowRest() {
    LeftAsFound x = new LeftAsFound();
    x.guest(1, 0);
    due("law", enact(x, "k=0&f=55?-5;k=1&f=56?-6;k=2&f=60?-10;k<3"), 1);
    tell(x, 0, 0);
    for (int what = 0; what < 6; what++) due("not within 200", x.rest(0, what), -2);
    due("law", enact(x, "k=0&f=55?-5;k=2&f=60?-10;!(k%2)"), 1);
    due("rows", x.rest(0, 0), 1);
    due("round", x.rest(0, 1), 66);
    due("level", x.rest(0, 2), 51);
    // rounds of 8 and 25: of 200; the first time what was found comes to it, and so it is one row too late
    due("law", enact(x, "k=0&f>56?-7;k=0?1;k=1&f>67?-18;k=1?7"), 1);
    due("201", x.rest(0, 0), -2);
    due("night", x.night(0), 0);
    due("200", x.rest(0, 0), 0);
    due("200", x.rest(0, 1), 200);
    due("200", x.rest(0, 3), 57);
  }

  private static void often() {
    LeftAsFound x = pair();
    tell(x, 0, 0);
    // m others take 2m, then guest 1 brings 10 and takes 1, no further than 50, if more than 3 lack
    due("38: five others bring it to 40", x.often(0, 10, 40), 4);
    due("not below 0", x.often(0, 10, 0), 12);
    due("m 2: 48, 46, 50", x.often(0, 10, 45), 2);
    tell(x, 0, 0, 0, 9, 9, 9);
    // m 5: 48, 46, 46, 46, 46, 50; by any greater m the next one comes ahead of guest 1: 44
    due("the row begins again", x.often(0, 10, 45), 5);
    x.mend(0, 2, 4);
    tell(x, 0, 0);
    due("m 1: 46, 50", x.often(0, 10, 46), 1);
    x.mend(0, 2, 2);
    due("never", x.often(0, 10, 50), -2);
    due("of a thing that nobody brings", x.often(0, 11, 1), -2);
    due("x 99", x.often(0, 10, 99), -2);
    due("x 100", x.often(0, 10, 100), -1);
    due("x -1", x.often(0, 10, -1), -1);
    due("guest 2", x.often(0, 20, 0), -1);
    due("thing 4", x.often(0, 4, 0), -1);
    LeftAsFound y = wrongShelves();
    due("-11", y.often(0, 0, 0), -11);
    due("-12", y.often(1, 0, 0), -12);
    due("-12", y.often(2, 0, 0), -12);
    due("empty nights: 4 visits by m 12", y.often(3, 0, 42), 12);
    due("5 visits by m 11", y.often(3, 0, 43), -2);
    due("bad ahead of -11", y.often(0, 20, 0), -1);
    due("shelf 6", y.often(6, 0, 0), -1);
  }

  private static void warden() {
    LeftAsFound x = new LeftAsFound();
    x.guest(1, 50);
    tell(x, 0, 0);
    // by m: 60 / m visits of 20, and 4 * (1 + .. + m) for each full m: 1440, 960, 880, 900 ..
    due("m", x.warden(0, 0), 3);
    due("cost", x.warden(0, 1), 20 * 20 + 20 * 24);
    // without: 4 * (1 + .. + 50) + 10 * 200
    due("worth", x.warden(0, 2), 5100 + 2000 - 880);
    x.mend(0, 7, 0);
    due("for nothing he comes each night", x.warden(0, 0), 1);
    due("cost", x.warden(0, 1), 240);
    LeftAsFound y = wrongShelves();
    due("of like ones the greatest", y.warden(3, 0), 20);
    due("three visits", y.warden(3, 1), 60);
    due("worth less than nothing", y.warden(3, 2), -60);
    y.mend(0, 7, 0);
    due("all alike", y.warden(3, 0), 20);
    due("-11", y.warden(0, 0), -2000000000);
    due("-12", y.warden(1, 0), -2000000000);
    due("what 3", y.warden(3, 3), -2000000000);
    due("what -1", y.warden(3, -1), -2000000000);
    due("shelf 6", y.warden(6, 0), -2000000000);
  }

  private static void spoils() {
    LeftAsFound x = pair();
    tell(x, 0, 1, 0, 9);
    // without 0: 4 in each of 3 nights; without 1: 0, 8, 8
    due("guest", x.spoils(0, 0), 0);
    due("loss", x.spoils(0, 1), 12);
    x.mend(0, 2, 1);
    x.mend(1, 2, 1);
    x.mend(2, 2, 1);
    x.mend(3, 2, 1);
    // without 0: 12; without 1: 0, 4, 4
    due("guest", x.spoils(0, 0), 1);
    due("loss", x.spoils(0, 1), 8);
    tell(x, 0, 9, 1);
    due("one who comes", x.spoils(0, 0), 1);
    tell(x, 0, 1, 0, 1);
    x.mend(0, 6, 0);
    x.mend(10, 3, 0);
    tell(x, 0, 0, 1, 1, 0);
    // without 0: 0, 4, 8, 8; without 1: 4, 4, 4, 8; both 20
    due("of like ones the least", x.spoils(0, 0), 0);
    due("loss", x.spoils(0, 1), 20);
    tell(x, 0, 9, -1);
    due("nobody", x.spoils(0, 0), -2);
    due("nobody", x.spoils(0, 1), -2);
    LeftAsFound y = wrongShelves();
    due("no nights", y.spoils(3, 0), -2);
    due("-11", y.spoils(0, 0), -11);
    due("-12", y.spoils(2, 0), -12);
    due("what 2", y.spoils(0, 2), -1);
    due("what -1", y.spoils(0, -1), -1);
    due("shelf 6", y.spoils(6, 0), -1);
  }

  private static void order() {
    LeftAsFound x = new LeftAsFound();
    x.guest(3, 50);
    x.guest(1, 50);
    x.guest(0, 50);
    tell(x, 0, 0, 1, 2, 1, 9, 0);
    // who takes least comes first: places 2 and 4 (nobody), 1 and 3, then 0; 0 + 0 + 4 + 8 + 20 + 32
    int[] places = {2, 4, 1, 3, 0};
    for (int k = 0; k < 5; k++) due("place " + k, x.order(0, k), places[k]);
    due("loss", x.order(0, -1), 64);
    due("k 5", x.order(0, 5), -2);
    due("k far", x.order(0, Integer.MAX_VALUE), -2);
    due("k -2", x.order(0, -2), -1);
    tell(x, 0, 0, 0);
    due("of like ones the first", x.order(0, 0), 0);
    due("of like ones the first", x.order(0, 1), 1);
    due("there are but two", x.order(0, 2), -2);
    LeftAsFound y = wrongShelves();
    due("no nights", y.order(3, -1), 0);
    due("no nights", y.order(3, 0), -2);
    due("-11", y.order(0, -1), -11);
    due("-11 ahead of not", y.order(0, 9), -11);
    due("-12", y.order(1, -1), -12);
    due("shelf 6", y.order(6, -1), -1);
  }

  private static void tin() {
    LeftAsFound x = pair();
    tell(x, 0, 0, 0, 1);
    // 8, 8, and of guest 1: brings 0 back to 50, takes 1 of three others: 3
    due("above", x.tin(0, 0), 19);
    due("below", x.tin(0, 1), 2);
    x.mend(0, 8, 12);
    due("above", x.tin(0, 0), 19);
    due("below", x.tin(0, 1), 1);
    x.mend(0, 8, 0);
    due("above", x.tin(0, 0), 0);
    due("below", x.tin(0, 1), 1);
    x.mend(0, 8, 1);
    x.mend(0, 1, 9);
    // 4 * 9 + 12 + 3 = 51 in twelve
    due("above", x.tin(0, 0), 17);
    due("below", x.tin(0, 1), 4);
    x.set(1, 53);
    // of thing 1 guest 0 takes 0 and 1 below ought, guest 1 one: 2 instead of 5
    due("from ought on", x.tin(0, 0), 4);
    due("from ought on", x.tin(0, 1), 1);
    LeftAsFound y = wrongShelves();
    due("no nights", y.tin(3, 0), 0);
    due("no nights", y.tin(3, 1), 1);
    due("-11", y.tin(0, 0), NONE);
    due("-12", y.tin(1, 0), NONE);
    due("part 2", y.tin(3, 2), NONE);
    due("part -1", y.tin(3, -1), NONE);
    due("shelf 6", y.tin(6, 0), NONE);
  }

  private static void who() {
    LeftAsFound x = pair();
    tell(x, 0, -1, 47, -1, -1);
    // 47: one took 2, the other 1
    due("night 0", x.who(0, 0, 0), 3);
    due("night 1", x.who(0, 0, 1), 3);
    due("night 2", x.who(0, 0, 2), 131);
    due("night 4", x.who(0, 0, 4), -1);
    tell(x, 0, 49, 47, 47);
    due("night 0", x.who(0, 0, 0), 2);
    due("night 1", x.who(0, 0, 1), 1);
    due("night 2", x.who(0, 0, 2), 128);
    tell(x, 0, -1, -1, 43);
    due("it cannot be so", x.who(0, 0, 0), 0);
    due("it cannot be so", x.who(0, 0, 2), 0);
    tell(x, 0, -1, -1, 43, -1);
    due("it cannot be so", x.who(0, 0, 3), 0);
    tell(x, 0, -1, -1, -1, -1, -1, -1, 0);
    due("6 nights count", x.who(0, 0, 5), 131);
    LeftAsFound y = wrongShelves();
    due("no such night", y.who(3, 0, 0), -1);
    due("-11", y.who(0, 0, 5), -11);
    due("-12", y.who(1, 0, 0), -12);
    due("-12", y.who(2, 0, 0), -12);
    due("k 6", y.who(0, 0, 6), -1);
    due("k -1", y.who(0, 0, -1), -1);
    due("thing 4", y.who(0, 4, 0), -1);
    due("shelf 6", y.who(6, 0, 0), -1);
  }

  private static void ways() {
    LeftAsFound x = pair();
    tell(x, 0, -1, 47, -1, -1);
    due("two, by three, by three", x.ways(0, 0), 18);
    tell(x, 0, -1, 48);
    // 0 and nobody in either order, 1 and 1
    due("ways", x.ways(0, 0), 3);
    tell(x, 0, 100);
    due("100", x.ways(0, 0), 0);
    tell(x, 0, -2);
    due("-2", x.ways(0, 0), 0);
    tell(x, 0, -1, -1, -1, -1, -1, -1, 3);
    due("6 nights count", x.ways(0, 0), 729);
    due("the scene stays", x.of(0, 10), 50);
    LeftAsFound z = new LeftAsFound();
    for (int i = 0; i < 7; i++) z.guest(0, 0);
    tell(z, 0, -1, -1, -1, -1, -1, 50);
    due("8 by 8 by ..", z.ways(0, 0), 262144);
    LeftAsFound y = wrongShelves();
    due("no nights", y.ways(3, 0), 1);
    due("-11", y.ways(0, 0), -11);
    due("-12", y.ways(1, 0), -12);
    due("thing 4", y.ways(0, 4), -1);
    due("thing -1", y.ways(0, -1), -1);
    due("shelf 6", y.ways(6, 0), -1);
  }

  private static void judge() {
    LeftAsFound x = pair();
    tell(x, 1, 0, 9, 0, 1);
    tell(x, 2, 48, -1, 46, 50);
    due("so it is", x.judge(12, 0), -2);
    due("of another thing", x.judge(12, 1), 3);
    tell(x, 2, 48, 48, 45);
    due("night 2", x.judge(12, 0), 2);
    tell(x, 2, 48, 48);
    due("as far as it was seen", x.judge(12, 0), -2);
    tell(x, 2, 48, 48, 46, 50, 0, 0);
    due("as far as was told", x.judge(12, 0), -2);
    tell(x, 1, 9, 9, 9, 9, 9, 9, 9, 0);
    tell(x, 2, 50, 50, 50, 50, 50, 50, 50, 50);
    due("night 7", x.judge(12, 0), 7);
    LeftAsFound y = wrongShelves();
    tell(y, 4, 0);
    due("no nights", y.judge(34, 0), -2);
    due("-11", y.judge(40, 0), -11);
    due("-11", y.judge(4, 0), -11);
    due("-11 ahead of -12", y.judge(10, 0), -11);
    due("-11 ahead of -12", y.judge(1, 0), -11);
    due("-12", y.judge(14, 0), -12);
    due("-12", y.judge(42, 0), -12);
    due("shelf 6", y.judge(60, 0), -1);
    due("shelf 6", y.judge(6, 0), -1);
    due("-1", y.judge(-1, 0), -1);
    due("-10", y.judge(-10, 0), -1);
    due("thing 4", y.judge(0, 4), -1);
  }

  private static void since() {
    LeftAsFound x = pair();
    tell(x, 0, 0, 9, 0, 0, 1, 0);
    // of thing 0: lacks 2, 2, 4, 6, 0, 2
    due("x 0", x.since(0, 0, 0), 4);
    due("x 2", x.since(0, 0, 2), 5);
    // of thing 1: 2, 2, 4, 6, 7, 9
    due("x 2", x.since(0, 1, 2), 1);
    due("x 5", x.since(0, 1, 5), 2);
    due("x 1: so ahead, too", x.since(0, 1, 1), -2);
    due("x 99", x.since(0, 1, 99), 5);
    due("x 100", x.since(0, 1, 100), -1);
    due("x -1", x.since(0, 1, -1), -1);
    x.set(1, 99);
    due("more than ought", x.since(0, 1, 0), 5);
    LeftAsFound y = wrongShelves();
    due("no nights", y.since(3, 0, 99), -2);
    due("-11", y.since(0, 0, 0), -11);
    due("-12", y.since(2, 0, 0), -12);
    due("thing 4", y.since(0, 4, 0), -1);
    due("shelf 6", y.since(6, 0, 0), -1);
  }

  private static void drawn() {
    LeftAsFound x = new LeftAsFound();
    due("nobody", x.drawn(5, 60, 0), 0);
    due("nobody", x.drawn(5, 60, 1), 50);
    x.guest(1, 50);
    // seed 0: z 12345, >>> 8 is 48: guest 0; then z -1406932606, >>> 8 is 11281386: guest 0
    due("one night", x.drawn(0, 1, 0), 4);
    due("two nights", x.drawn(0, 2, 0), 12);
    due("lowest", x.drawn(0, 2, 1), 48);
    // seed -1: z -1103502900, >>> 8 is 12466657: nobody
    due("nobody", x.drawn(-1, 1, 1), 50);
    // seed 1: z 1103527590, >>> 8 is 4310654: guest 0
    due("seed 1", x.drawn(1, 1, 1), 49);
    due("n 0", x.drawn(0, 0, 0), -1);
    due("n 61", x.drawn(0, 61, 0), -1);
    due("what 2", x.drawn(0, 1, 2), -1);
    due("what -1", x.drawn(0, 1, -1), -1);
    due("in thought", x.count(1), 0);
    long z = 77;
    int level = 50, least = 50, sum = 0;
    for (int i = 0; i < 60; i++) {
      z = (z * 1103515245L + 12345L) % 4294967296L;
      if (z / 256 % 2 == 0) level = Math.max(0, level - 1);
      least = Math.min(least, level);
      sum += 4 * (50 - level);
    }
    due("sixty", x.drawn(77, 60, 0), sum);
    due("sixty", x.drawn(77, 60, 1), least);
  }

  private static void night() {
    LeftAsFound x = pair();
    due("lacks", x.night(0), 8);
    due("level", x.of(0, 10), 48);
    x.mend(0, 1, 4);
    due("by worth", x.night(0), 16 + 12);
    due("brings", x.night(1), 15);
    due("level", x.of(0, 10), 50);
    due("guest 2", x.night(2), -1);
    due("guest -1", x.night(-1), -1);
    due("nights", x.led(0), 3);
    due("deeds are no changes", x.count(3), 3);
    promise = 23;
    believing();
  }

  private static void set() {
    LeftAsFound x = new LeftAsFound();
    due("set", x.set(3, 99), 50);
    due("set", x.set(3, 0), 99);
    due("set", x.of(3, 10), 0);
    due("the others stay", x.of(2, 10), 50);
    due("v 100", x.set(0, 100), -1);
    due("v -1", x.set(0, -1), -1);
    due("thing 4", x.set(4, 0), -1);
    due("thing -1", x.set(-1, 0), -1);
    due("no change", x.count(3), 0);
  }

  private static void forget() {
    LeftAsFound x = pair();
    due("never", x.forget(0), 0);
    x.night(0);
    due("count", x.count(1), 1);
    due("forget", x.forget(0), 1);
    due("count", x.count(1), 0);
    due("found", x.of(0, 12), -2);
    due("again", x.forget(0), 0);
    x.night(0);
    due("as of now", x.of(0, 12), 48);
    due("led stays", x.led(0), 2);
    due("guest 2", x.forget(2), -1);
    due("guest -1", x.forget(-1), -1);
  }

  private static void led() {
    LeftAsFound x = pair();
    due("nights", x.led(0), 0);
    due("loss", x.led(1), 0);
    due("worst", x.led(2), 0);
    due("its guest", x.led(3), -2);
    for (int thing = 0; thing < 4; thing++) x.set(thing, 99);
    due("nothing lacks", x.night(1), 0);
    due("worst", x.led(2), 0);
    due("the first such", x.led(3), 1);
    for (int thing = 0; thing < 4; thing++) x.set(thing, 50);
    x.night(0);
    x.mend(0, 2, 0);
    x.mend(1, 2, 0);
    x.mend(2, 2, 0);
    x.mend(3, 2, 0);
    x.night(0);
    x.mend(10, 2, 0);
    x.mend(11, 2, 0);
    x.mend(12, 2, 0);
    x.mend(13, 2, 0);
    x.night(1);
    due("nights", x.led(0), 4);
    due("loss", x.led(1), 24);
    due("worst", x.led(2), 8);
    due("the first such", x.led(3), 0);
    due("what 4", x.led(4), -1);
    due("what -1", x.led(-1), -1);
  }

  private static void imageAndBack() {
    LeftAsFound x = pair();
    promise = 28;
    due("none", x.back(), -5);
    x.mend(0, 5, 1);
    x.night(0);
    promise = 27;
    due("nights", x.image(), 1);
    x.set(0, 7);
    x.night(1);
    x.night(0);
    x.guest(9, 0);
    x.night(2);
    x.mend(2, 5, 3);
    x.forget(0);
    due("worst", x.led(3), 2);
    promise = 28;
    due("nights", x.back(), 1);
    due("level", x.of(0, 10), 48);
    due("book", x.of(0, 11), 48);
    due("found", x.of(0, 12), 50);
    due("never there", x.of(20, 12), -2);
    due("never there", x.of(10, 12), -2);
    due("count", x.count(1), 1);
    due("guests stay", x.count(0), 3);
    due("what was told stays", x.of(2, 5), 3);
    due("nights", x.led(0), 1);
    due("loss", x.led(1), 8);
    due("worst", x.led(2), 8);
    due("its guest", x.led(3), 0);
    // the one ahead believed the book: 50; what lacks is 2, guest 2 sees that and brings
    x.mend(20, 3, 20);
    x.set(0, 40);
    x.mend(0, 0, 90);
    x.night(2);
    due("what the one ahead believed", x.of(0, 10), 50);
    due("again", x.back(), 1);
    due("level", x.of(0, 10), 48);
    promise = 27;
    x.set(0, 33);
    due("another image", x.image(), 1);
    x.set(0, 44);
    x.back();
    due("the latest", x.of(0, 10), 33);
  }

  private static void undoAndRedo() {
    LeftAsFound x = new LeftAsFound();
    x.guest(1, 5);
    promise = 29;
    due("none", x.undo(), -5);
    for (int what = 0; what < 9; what++) x.mend(0, what, 2);
    due("changes", x.count(3), 9);
    for (int left = 8; left >= 0; left--) due("undo", x.undo(), left);
    int[] first = {50, 1, 1, 0, 5, 0, 50, 20, 6};
    for (int what = 0; what < 9; what++) due("as at first " + what, x.of(0, what), first[what]);
    due("none", x.undo(), -5);
    promise = 30;
    for (int left = 8; left >= 0; left--) due("redo", x.redo(), left);
    due("none", x.redo(), -5);
    for (int what = 0; what < 9; what++) due("again " + what, x.of(0, what), 2);
    x.undo();
    x.undo();
    due("the same is no change", x.mend(0, 0, 2), 2);
    x.night(0);
    x.set(1, 5);
    x.guest(1, 1);
    due("deeds are none", x.redo(), 1);
    due("another came", x.mend(0, 0, 9), 2);
    due("no more", x.redo(), -5);
    promise = 29;
    for (int i = 0; i < 60; i++) x.mend(0, 7, 100 + i);
    due("40 are kept", x.count(3), 40);
    for (int left = 39; left >= 0; left--) {
      due("undo", x.undo(), left);
      due("one by one", x.of(0, 7), 119 + left);
    }
    due("the oldest are lost", x.undo(), -5);
    promise = 30;
    for (int left = 39; left >= 0; left--) {
      due("redo", x.redo(), left);
      due("one by one", x.of(0, 7), 159 - left);
    }
  }

  private static void body() {
    LeftAsFound x = new LeftAsFound();
    due("kind -1", x.body(-1), -1);
    due("kind 8", x.body(8), -1);
    for (int i = 0; i < 50; i++) due("body", x.body(i % 8), i);
    due("full", x.body(0), -3);
    due("bad ahead of full", x.body(8), -1);
    due("count", x.count(4), 50);
  }

  private static void actAndTrace() {
    LeftAsFound x = new LeftAsFound();
    x.body(0);
    for (int kind = 0; kind < 8; kind++) due("body", x.body(kind), kind + 1);
    int[][] traces = {
        {1}, {10, 1}, {11}, {2, 10, 1, 11},
        {20, 1}, {10, 20, 1}, {11}, {2, 10, 20, 1, 11},
        {1}, {30, 10, 1}, {11}, {2, 30, 10, 1, 11},
        {1}, {41, 30, 10, 1}, {40, 11}, {2, 41, 30, 10, 1, 40, 11},
        {20, 1}, {10, 20, 1}, {11}, {50, 2, 10, 20, 1, 11},
        {1}, {41, 30, 10, 1}, {60, 40, 11, 1}, {61, 2, 41, 30, 10, 1, 60, 40, 11, 1},
        {70, 1}, {10, 70, 1}, {11}, {2, 10, 70, 1, 11},
        {81, 70, 1}, {80, 10, 81, 70, 1, 11}, {11}, {2, 80, 10, 81, 70, 1, 11, 11}};
    // n is kind and 1, x 10
    int[] values = {
        11, 22, 11, 22 - 0,
        15, 30, 8, 30 - 3,
        13, -26, 9, -26 - 2,
        14, -30, 42, -30 - 15,
        18, 36, 15, (36 - 4) ^ 5,
        16, -34, 36 - 8, -34 - (21 - 8) + 1,
        34, 68, 13, 68 - 6,
        35, 70 + 10, 2, 80 - 9};
    for (int i = 0; i < 32; i++) {
      promise = 32;
      due("act " + i % 4 + " of kind " + i / 4, x.act(i / 4 + 1, i % 4, 10), values[i]);
      promise = 33;
      for (int k = 0; k < traces[i].length; k++) due("trace " + k, x.trace(k), traces[i][k]);
      due("behind the trace", x.trace(traces[i].length), -1);
      due("count", x.count(5), traces[i].length);
    }
    for (int far : FAR) due("trace far", x.trace(far), -1);
    promise = 32;
    due("wraps", x.act(1, 0, Integer.MAX_VALUE), Integer.MIN_VALUE);
    due("no such body", x.act(9, 0, 1), 0);
    due("no trace", x.count(5), 0);
    due("no trace", x.trace(0), -1);
    x.act(1, 0, 1);
    due("no such act", x.act(1, 4, 1), 0);
    due("no trace", x.count(5), 0);
    x.act(1, 0, 1);
    due("no such act", x.act(1, -1, 1), 0);
    due("no such body", x.act(-1, 0, 1), 0);
    due("no trace", x.count(5), 0);
  }

  private static void keep() {
    LeftAsFound x = new LeftAsFound();
    due("no such body", x.keep(0, 0), -1);
    x.body(3);
    due("a body", x.keep(0, 0), 1);
    due("taken", x.taken(0, 3), 3);
    due("nothing", x.keep(0, -1), 1);
    due("taken", x.taken(0, 3), -11);
    due("row", x.row(0, 0, 1), 1);
    due("instead of a row", x.keep(0, 0), 1);
    due("no row", x.put(0, 0, 1), -12);
    due("-2", x.keep(0, -2), -1);
    due("body 1", x.keep(0, 1), -1);
    due("it stays", x.taken(0, 3), 3);
    due("shelf 6", x.keep(6, 0), -1);
    due("shelf -1", x.keep(-1, -1), -1);
  }

  private static void row() {
    LeftAsFound x = new LeftAsFound();
    for (int sort = 0; sort < 5; sort++) {
      due("row", x.row(5, sort, 60), 1);
      due("0 at first", x.element(5, 59), 0);
      due("put", x.put(5, 59, 1), 1);
    }
    due("anew", x.row(5, 4, 60), 1);
    due("0 at first", x.element(5, 59), 0);
    due("61", x.row(5, 0, 61), -1);
    due("-1", x.row(5, 0, -1), -14);
    due("far", x.row(5, 0, Integer.MIN_VALUE), -14);
    due("sort 5", x.row(5, 5, 0), -1);
    due("sort -1", x.row(5, -1, -1), -1);
    due("shelf 6", x.row(6, 0, -1), -1);
    due("shelf -1", x.row(-1, 0, 0), -1);
    due("it stays", x.element(5, 59), 0);
    due("none", x.row(5, 0, 0), 1);
    due("none", x.element(5, 0), NONE);
  }

  private static void putAndElement() {
    LeftAsFound x = new LeftAsFound();
    long v = 0x123456789ABCDEF0L;
    long[] kept = {(byte) 0xF0, (short) 0xDEF0, (int) 0x9ABCDEF0L, v, 1};
    for (int sort = 0; sort < 5; sort++) {
      x.row(sort, sort, 3);
      promise = 36;
      due("put", x.put(sort, 1, v), 1);
      due("-13", x.put(sort, 3, 1), -13);
      due("-13", x.put(sort, -1, 1), -13);
      promise = 37;
      due("element", x.element(sort, 1), kept[sort]);
      due("the others stay", x.element(sort, 0), 0);
      due("the others stay", x.element(sort, 2), 0);
      due("-13", x.element(sort, 3), NONE);
      due("-13", x.element(sort, -1), NONE);
    }
    x.put(4, 1, 0);
    due("false", x.element(4, 1), 0);
    x.put(4, 1, 256);
    due("true", x.element(4, 1), 1);
    x.put(0, 0, 128);
    due("a byte", x.element(0, 0), -128);
    due("-11", x.element(5, 0), NONE);
    due("BAD", x.element(6, 0), NONE);
    due("BAD", x.element(-1, 0), NONE);
    promise = 36;
    due("-11", x.put(5, 0, 1), -11);
    due("BAD", x.put(6, 0, 1), -1);
    due("BAD", x.put(-1, 0, 1), -1);
    x.body(0);
    x.keep(5, 0);
    due("-12", x.put(5, 0, 1), -12);
    due("-12", x.put(5, -1, 1), -12);
    promise = 37;
    due("-12", x.element(5, 0), NONE);
  }

  private static void shift() {
    LeftAsFound x = new LeftAsFound();
    x.row(0, 2, 5);
    x.row(1, 2, 3);
    for (int i = 0; i < 5; i++) x.put(0, i, i + 1);
    due("shift", x.shift(0, 3, 1, 1, 2), 2);
    long[] there = {0, 4, 5};
    for (int i = 0; i < 3; i++) due("element", x.element(1, i), there[i]);
    due("as they were", x.shift(0, 0, 0, 1, 4), 4);
    long[] up = {1, 1, 2, 3, 4};
    for (int i = 0; i < 5; i++) due("element", x.element(0, i), up[i]);
    due("as they were", x.shift(0, 1, 0, 0, 4), 4);
    long[] down = {1, 2, 3, 4, 4};
    for (int i = 0; i < 5; i++) due("element", x.element(0, i), down[i]);
    due("none at the end", x.shift(0, 5, 1, 3, 0), 0);
    due("behind the end", x.shift(0, 6, 1, 3, 0), -13);
    due("behind the end", x.shift(0, 5, 1, 4, 0), -13);
    due("too many", x.shift(0, 0, 1, 0, 4), -13);
    due("too many", x.shift(1, 2, 0, 0, 2), -13);
    due("below 0", x.shift(0, -1, 1, 0, 1), -13);
    due("below 0", x.shift(0, 0, 1, -1, 1), -13);
    due("below 0", x.shift(0, 0, 1, 0, -1), -13);
    due("far", x.shift(0, Integer.MAX_VALUE, 1, 0, Integer.MAX_VALUE), -13);
    due("far", x.shift(0, 1, 1, Integer.MAX_VALUE, 1), -13);
    due("far", x.shift(0, 1, 1, 1, Integer.MIN_VALUE), -13);
    x.row(2, 3, 9);
    due("unlike", x.shift(0, 0, 2, 0, 1), -12);
    due("unlike ahead of -13", x.shift(0, 9, 2, 0, 1), -12);
    x.body(0);
    x.keep(3, 0);
    due("a body", x.shift(3, 0, 0, 0, 1), -12);
    due("a body", x.shift(0, 0, 3, 0, 1), -12);
    due("nothing", x.shift(4, 0, 0, 0, 1), -11);
    due("nothing", x.shift(0, 0, 4, 0, 1), -11);
    due("nothing ahead of -12", x.shift(3, 0, 4, 0, 1), -11);
    due("BAD", x.shift(6, 0, 4, 0, 1), -1);
    due("BAD", x.shift(4, 0, -1, 0, 1), -1);
  }

  private static void taken() {
    LeftAsFound x = new LeftAsFound();
    int[] above = {-1, 0, 0, 2, 1, 3, 0, 6};
    for (int kind = 0; kind < 8; kind++) {
      x.body(kind);
      x.keep(0, kind);
      for (int k = 0; k < 8; k++) {
        boolean under = false;
        for (int at = kind; at >= 0; at = above[at]) under |= at == k;
        due("kind " + kind + " for " + k, x.taken(0, k), under ? kind : -12);
      }
    }
    due("-11", x.taken(1, 0), -11);
    x.row(1, 0, 3);
    due("a row", x.taken(1, 0), -12);
    due("k 8", x.taken(2, 8), -1);
    due("k -1", x.taken(2, -1), -1);
    due("shelf 6", x.taken(6, 0), -1);
    due("shelf -1", x.taken(-1, 0), -1);
  }

  private static void count() {
    LeftAsFound x = pair();
    x.night(1);
    x.feed('f');
    x.body(0);
    x.body(7);
    x.act(1, 3, 1);
    int[] all = {2, 1, 1, 2, 2, 8};
    for (int what = 0; what < 6; what++) due("count " + what, x.count(what), all[what]);
    x.undo();
    due("may be undone", x.count(3), 1);
    due("what 6", x.count(6), -1);
    due("what -1", x.count(-1), -1);
  }

  public static void main(String[] args) {
    Runnable[] all = {null, PromiseTest::aNewObject, PromiseTest::guest, PromiseTest::guestsFromARow, PromiseTest::mend, PromiseTest::of,
        PromiseTest::feed, PromiseTest::law, PromiseTest::level, PromiseTest::lowest, PromiseTest::below, PromiseTest::loss,
        PromiseTest::rest, PromiseTest::often, PromiseTest::warden, PromiseTest::spoils, PromiseTest::order, PromiseTest::tin,
        PromiseTest::who, PromiseTest::ways, PromiseTest::judge, PromiseTest::since, PromiseTest::drawn, PromiseTest::night,
        PromiseTest::set, PromiseTest::forget, PromiseTest::led, PromiseTest::imageAndBack, null, PromiseTest::undoAndRedo, null,
        PromiseTest::body, PromiseTest::actAndTrace, null, PromiseTest::keep, PromiseTest::row, PromiseTest::putAndElement, null,
        PromiseTest::shift, PromiseTest::taken, PromiseTest::count};
    for (int i = 1; i <= 40; i++) {
      promise = i;
      if (all[i] != null) all[i].run();
    }
    System.out.println(wrong == 0 ? "all promises hold" : wrong + " answers are not as due");
    if (wrong != 0) System.exit(1);
  }
}
