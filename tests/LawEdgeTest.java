/** The edges of promises 6 and 7: the tape, the text of a law, its faults, what it gives. */
public final class LawEdgeTest {
  private static final String FRONT = "0123456789fotbsk(!-";

  /** Behind some texts: what may come next, and those of it with which the text is whole. */
  private static void goesOn(String begun, String next, String whole) {
    for (int letter = 0; letter < 256; letter++) {
      LeftAsFound x = new LeftAsFound();
      for (int i = 0; i < begun.length(); i++) x.feed(begun.charAt(i));
      Check.due("feed", x.feed(letter), begun.length() + 1);
      int fault = next.indexOf((char) letter) < 0 ? begun.length() : begun.length() + 1;
      Check.due("law of " + begun + " and byte " + letter, x.law(), whole.indexOf((char) letter) >= 0 ? 1 : -100 - fault);
    }
  }

  private static void tape() {
    Check.says("A byte (0 .. 255) comes to THE TAPE: how many it has. BAD, FULL (120)");
    Check.range("feed", v -> new LeftAsFound().feed(v), 0, 255, Check.BAD);
    LeftAsFound x = new LeftAsFound();
    for (int i = 1; i <= 120; i++) {
      Check.due("feed", x.feed(i == 60 ? 255 : 0), i);
      Check.due("count", x.count(2), i);
    }
    for (int i = 0; i < 3; i++) Check.due("the 121st", x.feed('f'), Check.FULL);
    Check.due("BAD first", x.feed(256), Check.BAD);
    Check.due("BAD first", x.feed(-1), Check.BAD);
    Check.due("count", x.count(2), 120);
    Check.says("THE TAPE is empty then");
    Check.due("law", x.law(), -100);
    Check.due("count", x.count(2), 0);
    Check.due("feed", x.feed('f'), 1);
    Check.due("law", x.law(), 1);
    Check.due("count", x.count(2), 0);
    Check.due("law of nothing", x.law(), -100);
  }

  private static void faults() {
    Check.says("FAULT: the place (from 0) of the first byte with which no TEXT goes on; the length, if it ends too early");
    String names = "fotbsk", digits = "0123456789", open = digits + names;
    Check.due("nothing", new LeftAsFound().law(), -100);
    goesOn("", FRONT, open);
    goesOn("f", "|&<=>+-*/%?;", "");
    goesOn("k", "|&<=>+-*/%?;", "");
    goesOn("1", digits + "|&<=>+-*/%?;", digits);
    goesOn("00", digits + "|&<=>+-*/%?;", digits);
    goesOn("999", digits + "|&<=>+-*/%?;", digits);
    goesOn("9999", "|&<=>+-*/%?;", "");
    for (char sign : "|&<=>+-*/%?;".toCharArray()) goesOn("t" + sign, FRONT, open);
    for (char sign : "<=>".toCharArray()) {
      goesOn("f" + sign + "o", "|&+-*/%?;", "");
      goesOn("f" + sign + "o+1*2", digits + "|&+-*/%?;", digits);
      goesOn("f" + sign + "o&s", "|&<=>+-*/%?;", "");
      goesOn("f" + sign + "o|s", "|&<=>+-*/%?;", "");
      goesOn("(f" + sign + "o)", "|&<=>+-*/%?;", "");
      goesOn("(f" + sign + "o", "|&+-*/%)", ")");
    }
    goesOn("f?o", "|&<=>+-*/%;", "");
    goesOn("f<1?o", "|&<=>+-*/%;", "");
    goesOn("f?o<t", "|&+-*/%;", "");
    goesOn("f?o;", FRONT, open);
    goesOn("f?o;f", "|&<=>+-*/%?;", "");
    goesOn("f;o?t", "|&<=>+-*/%;", "");
    goesOn("(", FRONT, "");
    goesOn("(f", "|&<=>+-*/%)", ")");
    goesOn("((f)", "|&<=>+-*/%)", ")");
    goesOn("(f)", "|&<=>+-*/%?;", "");
    goesOn("!", FRONT, open);
    goesOn("-", FRONT, open);
    goesOn("!f", "|&<=>+-*/%?;", "");
    goesOn("-1234", "|&<=>+-*/%?;", "");
    goesOn("f--", FRONT, open);
  }

  private static void open() {
    Check.says("At most 6 of ( ! - ahead of an O are open at once");
    String open = "0123456789fotbsk";
    for (String six : new String[] {"((((((", "!!!!!!", "------", "(!-(!-", "-(-(-(", "!(!(!("}) {
      goesOn(six, open, six.indexOf('(') < 0 ? open : "");
      Check.due("six", Check.enact(new LeftAsFound(), six + "f" + six.replaceAll("[!-]", "").replace('(', ')')), 1);
      String seven = "f+" + six + "(f";
      Check.due("seven", Check.enact(new LeftAsFound(), seven), -108);
    }
    goesOn("(((((f+", FRONT, "");
    goesOn("((((((f+", open, "");
    goesOn("((((((f)+", FRONT, "");
    goesOn("!!!!!f+", FRONT, open);
    goesOn("!!!!!!f+", FRONT, open);
    goesOn("(!!!!!f-", FRONT, "");
    goesOn("(((((!f&", FRONT, "");
    Check.due("a - between two is none of them", Check.enact(new LeftAsFound(), "((((((f-f-f))))))"), 1);
    Check.due("but one ahead of an O is", Check.enact(new LeftAsFound(), "((((((f--f))))))"), -108);
    Check.due("closed ones count no more", Check.enact(new LeftAsFound(), "((((((f))))))+((((((f))))))*!!!!!!f/------f"), 1);
    Check.due("in each line anew", Check.enact(new LeftAsFound(), "!!!!!!f?------f;((((((f))))))"), 1);
  }

  private static void lengths() {
    Check.says("THE LAW is a TEXT by THE TAPE (at most 120 bytes)");
    StringBuilder s = new StringBuilder("0");
    while (s.length() < 117) s.append("-1");
    Check.due("120 bytes that end too early", Check.enact(new LeftAsFound(), s + "-1-"), -220);
    Check.due("a fault at the last of 120", Check.enact(new LeftAsFound(), s + "-1)"), -219);
    Check.due("120 bytes", gives(s + "-10"), -20);
    Check.due("all of 118 count", gives("75" + s.substring(1)), 17);
    Check.due("all of 120 count", gives("75" + s.substring(1) + "-9"), 8);
    StringBuilder lines = new StringBuilder();
    while (lines.length() < 118) lines.append("f;");
    Check.due("60 lines", gives(lines + "01"), 20);
    Check.due("120 bytes that all do something", gives("-1" + "+0".repeat(58) + "+9"), 8);
    Check.due("as many that wait", gives("!1" + "|0".repeat(58) + "|7"), 1);
    Check.due("the length, if it ends too early", Check.enact(new LeftAsFound(), lines + "f;"), -220);
    StringBuilder unless = new StringBuilder();
    while (unless.length() < 116) unless.append("0?1;");
    Check.due("30 lines, none counts", gives(unless + "0?9"), 0);
    Check.due("30 lines, the last counts", gives(unless + "1?9"), 9);
    Check.due("29 lines, then one without", gives(unless + "-9"), -9);
    StringBuilder high = new StringBuilder();
    for (int i = 0; i < 6; i++) high.append("0|1&0<2+3*(");
    high.append("4").append(")".repeat(6));
    Check.due("as much as can wait", gives(high.toString()), 1);
    Check.due("a number of 4 digits at each place", gives("9999-9998+0001*0002/0002%0003"), 2);
  }

  /** What a text gives if 40 is found, 47 believed, takes 3, brings 8, sees 4 (rule 50) of thing 2. */
  private static int gives(String text) {
    LeftAsFound x = new LeftAsFound();
    x.guest(3, 4);
    x.mend(2, 3, 8);
    x.mend(0, 5, 2);
    x.mend(2, 0, 47);
    x.set(2, 40);
    Check.due(text, Check.enact(x, text), 1);
    x.row(0, 0, 1);
    return x.level(0, 2, 1) - 40;
  }

  private static void value(String text, int want) { Check.due(text, gives(text), want); }

  private static void numbers() {
    Check.says("a number (1 to 4 digits)");
    value("0", 0);
    value("9", 9);
    value("0000", 0);
    value("0019", 19);
    value("9999-9998", 1);
    Check.says("It gives by how much LEVEL changes (held within -20 .. 20; LEVEL stays 0 .. 99)");
    for (int v : new int[] {19, 20, 21, 9999}) {
      value("" + v, Math.min(v, 20));
      value("-" + v, Math.max(-v, -20));
    }
    for (int level = 0; level < 100; level++) {
      LeftAsFound x = Check.with(1);
      x.set(0, level);
      x.row(0, 0, 1);
      Check.enact(x, "20");
      Check.due("20 more than " + level, x.level(0, 0, 1), Math.min(99, level + 20));
      Check.enact(x, "-20");
      Check.due("20 less than " + level, x.level(0, 0, 1), Math.max(0, level - 20));
    }
    Check.says("Ints that wrap");
    String most = "((2147*100+48)*(9999+1)+3647)", least = "(-" + most + "-1)";
    value(most + ">0", 1);
    value(most + "+1<0", 1);
    value(most + "+1=" + least, 1);
    value(least + "-1=" + most, 1);
    value("-" + least + "=" + least, 1);
    value("0-" + least + "<0", 1);
    value(least + "*-1=" + least, 1);
    value(least + "/-1=" + least, 1);
    value(least + "%-1", 0);
    value(most + "*2", -2);
    value(least + "*2", 0);
    value(most + "*" + most, 1);
    value("9999*9999*9999/(9999*9999)", (9999 * 9999 * 9999) / (9999 * 9999));
    value("9999*9999*43%19", 9999 * 9999 * 43 % 19);
    value(most, 20);
    value(least, -20);
    value(most + "+1", -20);
    value(least + "-1", 20);
    Check.says("< = > by the numbers, not by their difference");
    value(least + "<" + most, 1);
    value(most + ">" + least, 1);
    value(least + ">1", 0);
    value("1>" + least, 1);
    value(most + "=" + least, 0);
  }

  private static void signs() {
    Check.says("/ and % toward 0, by 0 they give 0");
    int[][] of = {{7, 2}, {-7, 2}, {7, -2}, {-7, -2}, {0, 5}, {1, 5}, {4, 5}, {5, 5}, {-4, 5}, {-5, 5}, {19, 1}, {19, -1}};
    for (int[] two : of) {
      String a = two[0] < 0 ? "(0" + two[0] + ")" : "" + two[0], b = two[1] < 0 ? "(0" + two[1] + ")" : "" + two[1];
      value(a + "/" + b, two[0] / two[1]);
      value(a + "%" + b, two[0] % two[1]);
    }
    for (String a : new String[] {"0", "7", "-7", "9999", "f"}) {
      value(a + "/0", 0);
      value(a + "%0", 0);
      value(a + "/(f-f)", 0);
      value(a + "%(f-40)+5", 5);
    }
    value("3+5/0*2-1", 2);
    Check.says("| & < = > ! give 1, 0");
    String[] numbers = {"0", "1", "2", "-1", "9999"};
    int[] n = {0, 1, 2, -1, 9999};
    for (int i = 0; i < 5; i++) {
      value("!" + numbers[i], n[i] == 0 ? 1 : 0);
      for (int j = 0; j < 5; j++) {
        value(numbers[i] + "|" + numbers[j], n[i] != 0 || n[j] != 0 ? 1 : 0);
        value(numbers[i] + "&" + numbers[j], n[i] != 0 && n[j] != 0 ? 1 : 0);
        value(numbers[i] + "<" + numbers[j], n[i] < n[j] ? 1 : 0);
        value(numbers[i] + "=" + numbers[j], n[i] == n[j] ? 1 : 0);
        value(numbers[i] + ">" + numbers[j], n[i] > n[j] ? 1 : 0);
      }
    }
    value("2&1", 1);
    value("4|2", 1);
    value("-1&-1", 1);
    Check.says("E = A { | A }. A = B { & B }. B = S, or S < S, S = S, S > S. S = P { + P, - P }. P = O { * O, / O, % O }");
    value("0&0|1", 1);
    value("1|0&0", 1);
    value("0&1<2", 0);
    value("1&0<2", 1);
    value("1<0+2", 1);
    value("3-1<1", 0);
    value("2+3*4-20/3%4", 12);
    value("20-5-4", 11);
    value("19%7*3", 15);
    value("9/2*2", 8);
    value("-2*3+1", -5);
    value("!0+1", 2);
    value("!0*7", 7);
    value("-!0", -1);
    value("!-1", 0);
    value("--7", 7);
    value("!!7", 1);
    value("3--7", 10);
    value("-(2+3)*2", -10);
    value("(1|0)+(1&1)", 2);
  }

  private static void names() {
    Check.says("NAMES: f, o, t TAKES, b BRINGS, s SEES (RULE at most), k the THING");
    value("f-39", 1);
    value("o-39", 8);
    value("t", 3);
    value("b", 8);
    value("s", 4);
    value("k", 2);
    for (int rule = 0; rule <= 50; rule++) {
      LeftAsFound x = new LeftAsFound();
      x.guest(0, 12);
      x.mend(0, 6, rule);
      x.row(0, 0, 1);
      Check.enact(x, "s");
      Check.due("rule " + rule, x.level(0, 0, 1), 50 + Math.min(12, rule));
    }
    LeftAsFound x = Check.with(1);
    x.row(0, 0, 1);
    Check.enact(x, "k");
    for (int thing = 0; thing < 4; thing++) Check.due("k", x.level(0, thing, 1), 50 + thing);
    int[] sees = {0, 19}, takes = {0, 9}, brings = {0, 20};
    for (int i = 0; i < 2; i++) {
      LeftAsFound y = new LeftAsFound();
      y.guest(takes[i], sees[i]);
      y.mend(0, 3, brings[i]);
      y.row(0, 0, 1);
      Check.enact(y, "t");
      Check.due("t", y.level(0, 0, 1), 50 + takes[i]);
      Check.enact(y, "b");
      Check.due("b", y.level(0, 0, 1), 50 + brings[i]);
      Check.enact(y, "s");
      Check.due("s", y.level(0, 0, 1), 50 + sees[i]);
    }
    Check.says("it believes that it ought to be o");
    for (int believes = 0; believes < 4; believes++) {
      LeftAsFound y = Check.with(2);
      y.mend(1, 5, 1);
      y.set(0, 42);
      y.night(1);
      y.set(0, 41);
      y.night(0);
      y.set(0, 43);
      y.mend(0, 0, 55);
      y.mend(0, 5, believes);
      y.row(0, 0, 1);
      Check.enact(y, "o-43");
      // it found 41; the book was written at 42; the picture tells 55; the one ahead, itself, believed 41
      Check.due("believes " + believes, y.level(0, 0, 1), new int[] {41, 42, 55, 41}[believes]);
    }
  }

  private static void lines() {
    Check.says("The first LINE without a first E, or whose first E is not 0, counts; none: 0");
    value("5", 5);
    value("5;6", 5);
    value("0;6", 0);
    value("0?5", 0);
    value("1?5", 5);
    value("-1?5", 5);
    value("0?5;6", 6);
    value("1?5;6", 5);
    value("0?5;0?6", 0);
    value("0?5;2?6", 6);
    value("0?5;7;1?6", 7);
    value("0?5;0?6;7", 7);
    value("1?0;7", 0);
    value("f<o?1;2", 1);
    value("f>o?1;2", 2);
    value("0|0?1;2", 2);
    value("9999*0?1;2", 2);
    value("f/0?1;2", 2);
    Check.says("THE TAPE becomes THE LAW: 1; -100 less its FAULT");
    LeftAsFound x = Check.taker(3);
    x.row(0, 0, 1);
    Check.due("without a text", x.level(0, 0, 1), 47);
    Check.due("a fault", Check.enact(x, "5;"), -102);
    Check.due("still without a text", x.level(0, 0, 1), 47);
    Check.due("a law", Check.enact(x, "5"), 1);
    Check.due("by it", x.level(0, 0, 1), 55);
    Check.due("a fault", Check.enact(x, "6)"), -101);
    Check.due("the law stays", x.level(0, 0, 1), 55);
    Check.due("no text", x.law(), -100);
    Check.due("the law stays", x.level(0, 0, 1), 55);
    x.feed('7');
    Check.due("what is on the tape is no law yet", x.level(0, 0, 1), 55);
    Check.due("a law", x.law(), 1);
    Check.due("by it", x.level(0, 0, 1), 57);
    Check.due("in deed, too", x.night(0), 0);
    Check.due("level", x.of(0, 10), 57);
    Check.due("a law of 0", Check.enact(x, "0"), 1);
    Check.due("is a law", x.level(0, 0, 1), 57);
    Check.due("laws are no changes", x.undo(), Check.STATE);
  }

  public static void main(String[] args) {
    tape();
    faults();
    open();
    lengths();
    numbers();
    signs();
    names();
    lines();
    Check.end("laws");
  }
}
