import java.util.function.ToLongBiFunction;

/** The edges of promises 8 to 17: stays in thought. */
public final class StaysEdgeTest {
  /** One of the calls on a shelf, with the last of its arguments that may be told, and how it refuses. */
  private static void onShelves(String call, ToLongBiFunction<LeftAsFound, Integer> answer, long bad, long nothing, long otherKind) {
    Check.says("BAD, -11, -12 of " + call + "()");
    Check.range(call, shelf -> {
      LeftAsFound x = Check.with(1);
      for (int i = 0; i < 6; i++) Check.tell(x, i, 0);
      return answer.applyAsLong(x, shelf);
    }, 0, 5, bad);
    LeftAsFound x = Check.with(1);
    x.body(0);
    for (int shelf = 0; shelf < 6; shelf++) Check.due("nothing on " + shelf, answer.applyAsLong(x, shelf), nothing);
    for (int sort = 1; sort < 5; sort++) {
      x.row(sort, sort, 3);
      Check.due("a row of sort " + sort, answer.applyAsLong(x, sort), otherKind);
      x.row(sort, sort, 0);
      Check.due("an empty row of sort " + sort, answer.applyAsLong(x, sort), otherKind);
    }
    x.keep(5, 0);
    Check.due("a body", answer.applyAsLong(x, 5), otherKind);
    x.keep(5, -1);
    Check.due("nothing again", answer.applyAsLong(x, 5), nothing);
  }

  private static void shelves() {
    onShelves("level", (x, shelf) -> x.level(shelf, 0, 0), -1, -11, -12);
    onShelves("lowest", (x, shelf) -> x.lowest(shelf, 0), -1, -11, -12);
    onShelves("below", (x, shelf) -> x.below(shelf, 0, 0), -1, -11, -12);
    onShelves("loss", (x, shelf) -> x.loss(shelf), -1, -11, -12);
    onShelves("rest", (x, shelf) -> x.rest(shelf, 0), -1, -11, -12);
    onShelves("often", (x, shelf) -> x.often(shelf, 0, 0), -1, -11, -12);
    onShelves("warden", (x, shelf) -> x.warden(shelf, 0), Check.VOID, Check.VOID, Check.VOID);
    onShelves("spoils", (x, shelf) -> x.spoils(shelf, 0), -1, -11, -12);
    onShelves("order", (x, shelf) -> x.order(shelf, -1), -1, -11, -12);
    onShelves("tin", (x, shelf) -> x.tin(shelf, 0), Check.NONE, Check.NONE, Check.NONE);
  }

  /** Each range of an argument, on a row, and that BAD is named ahead of -11 and -12. */
  private static void inRange(String call, ToLongBiFunction<LeftAsFound, Integer> answer, int least, int most, long bad) {
    Check.says(call + ": BAD");
    Check.range(call, v -> {
      LeftAsFound x = Check.with(1);
      Check.tell(x, 0, 0, 0, 0, 0, 0);
      return answer.applyAsLong(x, v);
    }, least, most, bad);
    for (int v : new int[] {least - 1, Check.MIN, most + 1, Check.MAX}) {
      if (v == Check.MIN && least == v + 1) continue;
      LeftAsFound x = Check.with(1);
      Check.due(call + " of " + v + " where nothing is", answer.applyAsLong(x, v), bad);
      x.row(0, 1, 5);
      Check.due(call + " of " + v + " where shorts are", answer.applyAsLong(x, v), bad);
    }
  }

  private static void arguments() {
    inRange("level(.., thing, ..)", (x, v) -> x.level(0, v, 0), 0, 3, -1);
    inRange("lowest(.., thing)", (x, v) -> x.lowest(0, v), 0, 3, -1);
    inRange("below(.., thing, ..)", (x, v) -> x.below(0, v, 0), 0, 3, -1);
    inRange("below(.., x)", (x, v) -> x.below(0, 0, v), 0, 99, -1);
    inRange("rest(.., what)", (x, v) -> x.rest(0, v), 0, 5, -1);
    inRange("often(.., gt, ..)", (x, v) -> x.often(0, v, 0), 0, 3, -1);
    inRange("often(.., x)", (x, v) -> x.often(0, 0, v), 0, 99, -1);
    inRange("warden(.., what)", (x, v) -> x.warden(0, v), 0, 2, Check.VOID);
    inRange("spoils(.., what)", (x, v) -> x.spoils(0, v), 0, 1, -1);
    inRange("tin(.., part)", (x, v) -> x.tin(0, v), 0, 1, Check.NONE);
    Check.says("order(): LOSS (k -1), the place of the k-th. BAD");
    for (int k : new int[] {-2, -3, Check.MIN}) {
      LeftAsFound x = Check.with(1);
      Check.due("k " + k + " where nothing is", x.order(0, k), -1);
      x.row(0, 2, 5);
      Check.due("k " + k + " where ints are", x.order(0, k), -1);
      x.row(0, 0, 5);
      Check.due("k " + k, x.order(0, k), -1);
    }
    Check.says("HOW OFTEN (gt)");
    for (int guests = 0; guests <= 7; guests++) {
      LeftAsFound x = Check.with(guests);
      x.row(0, 0, 1);
      for (int gt = -1; gt < 80; gt++) {
        boolean there = gt >= 0 && gt / 10 < guests && gt % 10 < 4;
        Check.due("often of " + gt, x.often(0, gt, 0), there ? 12 : -1);
      }
    }
  }

  private static void nightsThatCount() {
    Check.says("LEVEL of a THING behind k nights (0 .. as many as count); 30 count");
    for (int n : new int[] {0, 1, 2, 29, 30, 31, 59, 60}) {
      LeftAsFound x = Check.taker(1);
      x.row(0, 0, n);
      int count = Math.min(n, 30);
      for (int k = 0; k <= count; k++) Check.due("row of " + n + " behind " + k, x.level(0, 3, k), 50 - k);
      for (int k : new int[] {count + 1, 31, 60, 61, Check.MAX, -1, Check.MIN}) Check.due("behind " + k, x.level(0, 3, k), -1);
    }
    Check.says("GUESTS (30 count)");
    LeftAsFound x = Check.with(2);
    for (int thing = 0; thing < 4; thing++) x.mend(thing, 2, 7);
    Check.tellBut(x, 0, 60, 9, 29, 0);
    Check.tellBut(x, 1, 60, 9, 30, 0);
    Check.due("the 30th", x.lowest(0, 0), 43);
    Check.due("the 31st", x.lowest(1, 0), 50);
    Check.due("the 30th", x.below(0, 0, 50), 29);
    Check.due("the 31st", x.below(1, 0, 50), -2);
    Check.due("the 30th", x.loss(0), 28);
    Check.due("the 31st", x.loss(1), 0);
    Check.due("the 30th", x.rest(0, 0), 8);
    Check.due("the 31st", x.rest(1, 0), 0);
    Check.due("the 30th", x.often(0, 10, 50), -2);
    Check.due("the 31st", x.often(1, 10, 50), 12);
    Check.due("the 30th", x.spoils(0, 0), 0);
    Check.due("the 31st", x.spoils(1, 0), -2);
    Check.due("the 30th", x.order(0, -1), 28);
    Check.due("the 31st", x.order(1, -1), 0);
    Check.due("the 30th", x.tin(0, 0), 14);
    Check.due("the 31st", x.tin(1, 0), 0);
    Check.due("the 31st: the row begins again behind 30", x.warden(1, 2), -60);
    // nights 30 and 60: 28 behind each of the 30 from the 30th on, 56 behind the last
    Check.due("the 30th, all without him", x.warden(0, 2) + x.warden(0, 1), 30 * 28 + 56);
  }

  private static void nobody() {
    Check.says("one that is none: the hut is empty, nothing changes");
    for (int none : new int[] {2, 3, 6, 7, 127, -1, -2, -128}) {
      LeftAsFound x = Check.with(2);
      for (int thing = 0; thing < 4; thing++) x.mend(thing, 2, 4);
      Check.tell(x, 0, none, 0, none);
      Check.due("ahead of it", x.level(0, 0, 1), 50);
      Check.due("behind it", x.level(0, 0, 3), 46);
      Check.due("its nights count for LOSS", x.loss(0), 32);
      Check.due("it spoils nothing", x.spoils(0, 0), 0);
      Check.due("without", x.spoils(0, 1), 0);
    }
    LeftAsFound x = new LeftAsFound();
    x.row(0, 0, 5);
    Check.due("guest 0, before it came", x.loss(0), 0);
    Check.due("nobody comes", x.spoils(0, 0), -2);
    x.guest(1, 50);
    Check.due("guest 0", x.loss(0), 60);
    Check.says("what is put in keeps its lowest bits");
    x.put(0, 0, 256);
    x.put(0, 1, 255);
    Check.due("256 is guest 0, 255 nobody", x.level(0, 0, 2), 49);
  }

  private static void lowestAndBelow() {
    Check.says("the LOWEST LEVEL of a THING behind any (of no nights: as it is)");
    LeftAsFound x = Check.with(1);
    x.row(0, 0, 0);
    for (int level : new int[] {0, 1, 98, 99}) {
      x.set(2, level);
      Check.due("of no nights", x.lowest(0, 2), level);
    }
    x.set(2, 99);
    Check.tell(x, 0, 9);
    Check.due("behind an empty night", x.lowest(0, 2), 99);
    x.mend(2, 2, 7);
    Check.tell(x, 0, 0);
    Check.due("behind the first", x.lowest(0, 2), 92);
    Check.tell(x, 0, 0, 0);
    Check.due("behind the last", x.lowest(0, 2), 85);
    Check.enact(x, "5");
    x.set(2, 10);
    Check.tell(x, 0, 0, 0);
    Check.due("behind nights, not ahead of them", x.lowest(0, 2), 15);
    Check.enact(x, "f>59?-20;10");
    x.set(2, 55);
    // 65, 45, 55, 65
    Check.tell(x, 0, 0, 0, 0, 0);
    Check.due("in the middle", x.lowest(0, 2), 45);
    Check.enact(x, "-20");
    Check.due("at the end: 0", x.lowest(0, 2), 0);

    Check.says("The first night (0 on) behind which a THING is below x (0 .. 99)");
    LeftAsFound y = Check.taker(1);
    y.row(0, 0, 60);
    for (int v = 0; v < 100; v++) {
      int night = v > 49 ? 0 : 50 - v;
      Check.due("below " + v, y.below(0, 0, v), night < 30 ? night : -2);
    }
    y.set(0, 99);
    Check.due("98 is below 99", y.below(0, 0, 99), 0);
    Check.tell(y, 0, 9, 9, 0);
    Check.due("99 is not", y.below(0, 0, 99), 2);
    y.set(0, 0);
    Check.due("nothing is below 0", y.below(0, 0, 0), -2);
    Check.due("0 is below 1", y.below(0, 0, 1), 0);
    y.row(0, 0, 0);
    Check.due("of no nights", y.below(0, 0, 99), -2);
  }

  private static void loss() {
    Check.says("LOSS: all nights' sums of what lacks to OUGHT (0 at least) by WORTH, all THINGS");
    LeftAsFound x = Check.with(1);
    Check.tell(x, 0, 0, 0);
    int[] levels = {49, 50, 51, 99};
    for (int thing = 0; thing < 4; thing++) x.set(thing, levels[thing]);
    Check.due("one lacks, two are too many", x.loss(0), 2);
    for (int thing = 0; thing < 4; thing++) x.mend(thing, 0, 99);
    Check.due("to 99", x.loss(0), 2 * (50 + 49 + 48));
    for (int thing = 0; thing < 4; thing++) x.mend(thing, 1, 0);
    Check.due("worth nothing", x.loss(0), 0);
    for (int thing = 0; thing < 4; thing++) {
      x.mend(thing, 1, 9);
      Check.due("thing " + thing + " by 9", x.loss(0), 18 * (99 - levels[thing]));
      x.mend(thing, 1, 0);
    }
    for (int thing = 0; thing < 4; thing++) x.mend(thing, 1, 9);
    Check.setAll(x, 0);
    x.row(0, 0, 60);
    Check.due("the most", x.loss(0), 30 * 4 * 99 * 9);
    for (int thing = 0; thing < 4; thing++) x.mend(thing, 0, 0);
    Check.due("OUGHT 0", x.loss(0), 0);
    x.row(0, 0, 0);
    Check.due("of no nights", x.loss(0), 0);
  }

  /** A guest who has been there; thing 0 goes round in 6 rows, 1 in 25, 2 sinks to 0. */
  private static LeftAsFound rounds(int sinksFor) {
    LeftAsFound x = Check.with(1);
    Check.enact(x, "k=0&f=55?-5;k=0?1;k=1&f>67?-18;k=1?7;k=2?-1");
    x.night(0);
    Check.setAll(x, 50);
    x.set(2, sinksFor);
    x.row(0, 0, 1);
    return x;
  }

  private static void rest() {
    Check.says("behind how many ROWS (0 .. 200) all .. are as behind one ahead of it (how many ROWS it was then, of that one the first)");
    for (int sinks : new int[] {0, 1, 49, 50}) {
      LeftAsFound x = rounds(sinks);
      Check.due("rows", x.rest(0, 0), sinks);
      Check.due("round", x.rest(0, 1), 150);
      Check.due("thing 0", x.rest(0, 2), 50 + sinks % 6);
      Check.due("thing 1", x.rest(0, 3), x.level(0, 1, 0) + sinks * 7 % 25);
      Check.due("thing 2", x.rest(0, 4), 0);
      Check.due("thing 3", x.rest(0, 5), 50);
    }
    Check.says("NOT: not within 200");
    for (int sinks : new int[] {51, 99}) for (int what = 0; what < 6; what++) Check.due("what " + what, rounds(sinks).rest(0, what), -2);
    LeftAsFound x = rounds(51);
    x.row(0, 0, 2);
    Check.due("by rows, not by nights", x.rest(0, 0), 26);
    Check.due("round", x.rest(0, 1), 75);

    Check.says("(Empty ROWS: 0, ROUND 1.)");
    LeftAsFound y = Check.taker(1);
    for (int n : new int[] {0, 1, 30, 60}) {
      Check.tellBut(y, 0, n, 9, -1, 0);
      Check.due("rows", y.rest(0, 0), 0);
      Check.due("round", y.rest(0, 1), 1);
      for (int what = 2; what < 6; what++) Check.due("level", y.rest(0, what), 50);
    }
    Check.says("all LEVELS, THE BOOK and what was found are as behind one ahead of it");
    LeftAsFound z = Check.with(1);
    z.row(0, 0, 1);
    Check.due("what was found comes to it", z.rest(0, 0), 1);
    z.night(0);
    Check.due("nothing comes to it", z.rest(0, 0), 0);
    z.mend(0, 5, 1);
    z.set(0, 40);
    Check.due("the book is written", z.rest(0, 0), 1);
    z.mend(0, 5, 2);
    Check.due("the book is not written", z.rest(0, 0), 0);
    z.mend(0, 2, 1);
    z.set(0, 99);
    Check.due("one thing sinks", z.rest(0, 0), 99);
    z.mend(0, 2, 0);
    z.mend(3, 2, 9);
    Check.due("another sinks", z.rest(0, 0), 6);
    z.forget(0);
    Check.due("what was found, too", z.rest(0, 0), 6);
    z.mend(3, 2, 0);
    z.guest(0, 50);
    Check.tell(z, 0, 0, 1);
    for (int g = 0; g < 5; g++) z.guest(0, 50);
    Check.due("of two", z.rest(0, 0), 1);
    for (int g = 0; g < 7; g++) {
      LeftAsFound w = Check.with(7);
      Check.tell(w, 0, g);
      Check.due("what guest " + g + " found", w.rest(0, 0), 1);
      w.night(g);
      Check.due("it was there", w.rest(0, 0), 0);
    }
    Check.due("round", z.rest(0, 1), 1);
  }

  private static void often() {
    Check.says("GUEST g comes behind each m-th other one of the ROW (m 1 .. 12; .. 60 nights together, its own too)");
    LeftAsFound x = Check.taker(1);
    x.guest(0, 50);
    x.set(0, 99);
    x.row(0, 0, 1);
    // g does nothing: the level sinks by 60 less its own nights, of which there are 60 / (m + 1)
    for (int least = 0; least < 100; least++) {
      int greatest = -2;
      for (int m = 1; m <= 12; m++) if (99 - (60 - 60 / (m + 1)) >= least) greatest = m;
      Check.due("not below " + least, x.often(0, 10, least), greatest);
    }
    Check.due("m 12", x.often(0, 10, 43), 12);
    Check.due("m 11", x.often(0, 10, 44), 11);
    Check.due("m 1", x.often(0, 10, 69), 1);
    Check.due("not", x.often(0, 10, 70), -2);
    Check.says("behind each m-th other one");
    LeftAsFound y = Check.with(2);
    y.mend(10, 2, 9);
    y.row(0, 0, 1);
    // by m 12 it comes in nights 12, 25, 38, 51: 36 less; by 11 in five; by 1 in thirty
    Check.due("four of its own", y.often(0, 10, 14), 12);
    Check.due("not in five", y.often(0, 10, 15), -2);
    Check.says("the ROW read again and again");
    LeftAsFound z = Check.with(2);
    z.mend(0, 2, 1);
    Check.tell(z, 0, 0, 9, 9, 9, 9, 9, 9);
    // by m 12 there are 56 others, every seventh takes one: 8
    Check.due("by sevens", z.often(0, 10, 42), 12);
    // by m 5 there are 50 others: the 50th is one who takes: 8; by m 4 there are 48: 7
    Check.due("by sevens", z.often(0, 10, 43), 4);
    // by m 2 there are 40 others, by m 1 30: 6 and 5
    Check.due("by sevens", z.often(0, 10, 44), 2);
    Check.due("by sevens", z.often(0, 10, 45), 1);
    Check.due("by sevens", z.often(0, 10, 46), -2);
    Check.says("no LEVEL of a THING falls below x");
    LeftAsFound v = Check.with(2);
    v.row(0, 0, 1);
    Check.due("just x", v.often(0, 10, 50), 12);
    Check.due("below x", v.often(0, 10, 51), -2);
    v.set(0, 0);
    Check.due("0", v.often(0, 10, 0), 12);
    Check.due("1", v.often(0, 10, 1), -2);
    v.set(0, 99);
    Check.due("99", v.often(0, 10, 99), 12);
    v.mend(1, 2, 9);
    v.set(1, 0);
    Check.due("of this thing alone", v.often(0, 10, 99), 12);
    Check.says("one who comes of himself, too");
    Check.tell(v, 0, 1);
    Check.due("g is in the row", v.often(0, 10, 99), 12);
    v.row(0, 0, 0);
    Check.due("no others", v.often(0, 10, 99), 12);
  }

  private static void warden() {
    Check.says("all LEVELS become OUGHT behind each m-th night (m 1 .. 20) of the ROW read again and again, 60 nights");
    LeftAsFound x = Check.taker(1);
    x.row(0, 0, 1);
    x.mend(0, 7, 0);
    Check.due("for nothing: each night", x.warden(0, 0), 1);
    Check.due("60 nights of 4", x.warden(0, 1), 240);
    Check.due("without", x.warden(0, 2), 4 * (50 * 51 / 2 + 10 * 50) - 240);
    x.mend(0, 7, 999);
    // the dearest: three visits by 20: 2997 and 3 * 4 * 210; by 19: 2997 and 3 * 4 * 190 and 4 * 6; by 18: 4 * 21; by 17: 4 * 45
    // 20: 5517, 19: 5301, 18: 2997 + 2052 + 84 = 5133, 17: 2997 + 1836 + 180 = 5013, 16: 2997 + 1632 + 312 = 4941,
    // 15: four visits
    Check.due("the dearest", x.warden(0, 0), 16);
    Check.due("cost", x.warden(0, 1), 4941);
    Check.says("PRICE (0 .. 999; 20 at first) for each visit");
    LeftAsFound y = Check.with(1);
    y.row(0, 0, 1);
    for (int price : new int[] {20, 1, 999}) {
      y.mend(0, 7, price);
      Check.due("three visits are least", y.warden(0, 0), 20);
      Check.due("cost", y.warden(0, 1), 3 * price);
      Check.due("WORTH of him below 0", y.warden(0, 2), -3 * price);
    }
    y.mend(0, 7, 0);
    Check.says("(of like ones the greatest m)");
    Check.due("all alike", y.warden(0, 0), 20);
    Check.due("cost", y.warden(0, 1), 0);
    Check.due("worth", y.warden(0, 2), 0);
    y.mend(0, 7, 1);
    Check.setAll(y, 49);
    // by m: the first m nights lack 4 each: 4 m and 60 / m: 8 + 30, 12 + 20, 16 + 15, 20 + 12, 24 + 10, 28 + 8
    Check.due("m", y.warden(0, 0), 4);
    Check.due("cost", y.warden(0, 1), 31);
    y.mend(0, 1, 0);
    y.mend(1, 1, 0);
    y.mend(2, 1, 0);
    // m and 60 / m: 7 and 8, 8 and 7, 9 and 6; 6 and 10, 10 and 6 are more
    Check.due("three alike", y.warden(0, 0), 9);
    Check.due("cost", y.warden(0, 1), 15);
    Check.due("worth", y.warden(0, 2), 45);
    Check.says("all LEVELS become OUGHT: those above, too");
    LeftAsFound z = Check.taker(1);
    z.row(0, 0, 1);
    Check.setAll(z, 99);
    // without: 4 * (1 + .. + 11); by m 3: 19 * 24 and 20 visits
    Check.due("m", z.warden(0, 0), 3);
    Check.due("cost", z.warden(0, 1), 19 * 24 + 400);
    Check.due("worth", z.warden(0, 2), 264 - 856);
    z.row(0, 0, 0);
    emptyDearHut(z);
    Check.due("of no nights", z.warden(0, 0), 1);
    Check.due("only the first night lacks, and 60 visits", z.warden(0, 1), 4 * 99 * 9 + 60 * 20);
    Check.due("worth", z.warden(0, 2), 60 * 4 * 99 * 9 - 4 * 99 * 9 - 1200);
  }

  /** As much lacks as can. */
  private static void emptyDearHut(LeftAsFound x) {
    for (int thing = 0; thing < 4; thing++) {
      x.mend(thing, 0, 99);
      x.mend(thing, 1, 9);
    }
    Check.setAll(x, 0);
  }

  private static void spoils() {
    Check.says("of all GUESTS of a ROW that without which (its nights empty) LOSS is least (of like ones the least number)");
    LeftAsFound x = Check.with(7);
    Check.tell(x, 0, 6, 5, 6);
    Check.due("of like ones", x.spoils(0, 0), 5);
    Check.due("loss", x.spoils(0, 1), 0);
    for (int thing = 0; thing < 4; thing++) x.mend(60 + thing, 2, 1);
    Check.due("the last guest", x.spoils(0, 0), 6);
    Check.tell(x, 0, 0, 6, 6);
    Check.due("loss without 6", x.spoils(0, 1), 0);
    Check.tell(x, 0, 5, 0);
    Check.due("guest 6 does not come", x.spoils(0, 0), 0);
    Check.says("NOT: nobody comes");
    Check.tell(x, 0, 7, -1, 127);
    Check.due("none of them is a guest", x.spoils(0, 0), -2);
    Check.due("loss", x.spoils(0, 1), -2);
    x.row(0, 0, 0);
    Check.due("of no nights", x.spoils(0, 0), -2);
    Check.tell(x, 0, 0);
    Check.due("one night", x.spoils(0, 0), 0);
    Check.setAll(x, 40);
    Check.due("what lacks already", x.spoils(0, 1), 40);
    x.mend(10, 3, 20);
    x.mend(1, 4, 0);
    x.mend(1, 5, 2);
    Check.tell(x, 0, 1);
    Check.due("even one who brings", x.spoils(0, 0), 1);
    Check.due("loss", x.spoils(0, 1), 40);
  }

  private static void order() {
    Check.says("order(): NOT: there are not as many");
    for (int n = 0; n < 8; n++) {
      LeftAsFound x = Check.with(1);
      x.row(0, 0, n);
      int places = Math.min(n, 5);
      Check.due("LOSS of " + n, x.order(0, -1), 0);
      for (int k = 0; k < 9; k++) Check.due("place " + k + " of " + n, x.order(0, k), k < places ? k : -2);
      Check.due("far", x.order(0, Check.MAX), -2);
    }
    Check.says("of all orders of the first 5 nights of the ROW (the rest behind as it is)");
    LeftAsFound x = new LeftAsFound();
    for (int g = 0; g < 6; g++) x.guest(6 - g, 50);
    Check.tell(x, 0, 0, 1, 2, 3, 4, 9, 0);
    for (int k = 0; k < 5; k++) Check.due("who takes least comes first", x.order(0, k), 4 - k);
    // by nights 2, 5, 9, 14, 20, 20, 26, four things
    Check.due("loss", x.order(0, -1), 4 * (2 + 5 + 9 + 14 + 20 + 20 + 26));
    Check.tell(x, 0, 5, 5, 5, 5, 0, 4);
    int[] places = {0, 1, 2, 3, 4};
    for (int k = 0; k < 5; k++) Check.due("as it is", x.order(0, k), places[k]);
    Check.tell(x, 0, 0, 5);
    Check.due("two", x.order(0, 0), 1);
    Check.due("two", x.order(0, 1), 0);
    Check.due("two", x.order(0, -1), 4 * (1 + 7));
    Check.tell(x, 0, 0);
    Check.due("one", x.order(0, 0), 0);
    Check.due("one", x.order(0, -1), 24);
    Check.says("(of like ones the first by places)");
    Check.tell(x, 0, 1, 0, 1, 0, 1, 0);
    int[] like = {0, 2, 4, 1, 3};
    for (int k = 0; k < 5; k++) Check.due("of like ones", x.order(0, k), like[k]);
    emptyDearHut(x);
    int[] all = {0, 1, 2, 3, 4};
    for (int k = 0; k < 5; k++) Check.due("all alike", x.order(0, k), all[k]);
    x.row(0, 0, 60);
    Check.due("the most", x.order(0, -1), 30 * 4 * 99 * 9);
  }

  private static void fraction(LeftAsFound x, long above, long below) {
    Check.due("above", x.tin(0, 0), above);
    Check.due("below", x.tin(0, 1), below);
  }

  private static void tin() {
    Check.says("in so many of twelve as HONEST (0 .. 12; 6 at first): .. a fraction in lowest terms (0 by 1)");
    LeftAsFound x = Check.with(1);
    x.mend(0, 2, 1);
    x.row(0, 0, 1);
    fraction(x, 1, 2);
    long[][] twelfths = {{0, 1}, {1, 12}, {1, 6}, {1, 4}, {1, 3}, {5, 12}, {1, 2}, {7, 12}, {2, 3}, {3, 4}, {5, 6}, {11, 12}, {1, 1}};
    for (int honest = 0; honest <= 12; honest++) {
      x.mend(0, 8, honest);
      fraction(x, twelfths[honest][0], twelfths[honest][1]);
    }
    x.mend(0, 8, 5);
    for (int took = 0; took <= 9; took++) {
      x.mend(0, 2, took);
      int above = took * 5, below = 12;
      for (int d = 12; d > 1; d--) if (above % d == 0 && below % d == 0) { above /= d; below /= d; }
      fraction(x, above, below);
    }
    x.row(0, 0, 0);
    fraction(x, 0, 1);
    Check.tell(x, 0, 9);
    fraction(x, 0, 1);
    Check.says("what lacks more behind it than ahead, by WORTH; 0 at least");
    LeftAsFound y = Check.taker(3);
    y.mend(0, 8, 12);
    y.row(0, 0, 1);
    int[] levels = {50, 51, 53, 54}, paid = {3, 2, 0, 0};
    for (int i = 0; i < 4; i++) {
      Check.setAll(y, 99);
      y.set(i, levels[i]);
      fraction(y, paid[i], 1);
      y.mend(i, 1, 9);
      fraction(y, 9 * paid[i], 1);
      y.mend(i, 1, 0);
      fraction(y, 0, 1);
      y.mend(i, 1, 1);
    }
    Check.setAll(y, 2);
    fraction(y, 8, 1);
    Check.setAll(y, 0);
    fraction(y, 0, 1);
    Check.setAll(y, 40);
    y.mend(0, 3, 20);
    y.mend(0, 5, 2);
    y.mend(0, 4, 0);
    // thing 0 gets up to 50, of the others it takes 3 each
    fraction(y, 9, 1);
    y.row(0, 0, 60);
    Check.setAll(y, 50);
    y.mend(0, 3, 0);
    // 16 nights of 3, then 2: 50 of each
    fraction(y, 200, 1);
    for (int thing = 0; thing < 4; thing++) {
      y.mend(thing, 1, 9);
      y.mend(thing, 0, 99);
    }
    Check.setAll(y, 99);
    fraction(y, 30 * 4 * 3 * 9, 1);
  }

  public static void main(String[] args) {
    shelves();
    arguments();
    nightsThatCount();
    nobody();
    lowestAndBelow();
    loss();
    rest();
    often();
    warden();
    spoils();
    order();
    tin();
    Check.end("stays");
  }
}
