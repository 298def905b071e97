/** The edges of promises 18 to 22: levels read back, draws. */
public final class ReadEdgeTest {
  private static final int NOBODY = 128;

  private static void shelves() {
    Check.says("BAD (no such night, too), -11, -12 (no ROW of bytes)");
    Check.range("who(shelf, ..)", shelf -> allShelves().who(shelf, 0, 0), 0, 5, -1);
    Check.range("who(.., thing, ..)", thing -> allShelves().who(0, thing, 0), 0, 3, -1);
    Check.range("who(.., k)", k -> allShelves().who(0, 0, k), 0, 5, -1);
    Check.range("ways(shelf, ..)", shelf -> allShelves().ways(shelf, 0), 0, 5, -1);
    Check.range("ways(.., thing)", thing -> allShelves().ways(0, thing), 0, 3, -1);
    Check.range("since(shelf, ..)", shelf -> allShelves().since(shelf, 0, 0), 0, 5, -1);
    Check.range("since(.., thing, ..)", thing -> allShelves().since(0, thing, 0), 0, 3, -1);
    Check.range("since(.., x)", v -> allShelves().since(0, 0, v), 0, 99, -1);
    Check.range("judge(.., thing)", thing -> allShelves().judge(0, thing), 0, 3, -1);
    refusals("who", 0);
    refusals("ways", 1);
    refusals("since", 2);
  }

  /** On each shelf six nights that were not seen. */
  private static LeftAsFound allShelves() {
    LeftAsFound x = new LeftAsFound();
    for (int shelf = 0; shelf < 6; shelf++) Check.tell(x, shelf, -1, -1, -1, -1, -1, -1);
    return x;
  }

  private static int ask(LeftAsFound x, int which, int shelf, int thing, int number) {
    return which == 0 ? x.who(shelf, thing, number) : which == 1 ? x.ways(shelf, thing) : x.since(shelf, thing, number);
  }

  private static void refusals(String call, int which) {
    LeftAsFound x = new LeftAsFound();
    x.body(0);
    for (int shelf = 0; shelf < 6; shelf++) Check.due(call + " of nothing", ask(x, which, shelf, 0, 0), -11);
    Check.due("BAD first", ask(x, which, 0, 4, 0), -1);
    Check.due("BAD first", ask(x, which, 0, -1, 0), -1);
    if (which != 1) Check.due("BAD first", ask(x, which, 0, 0, which == 0 ? 6 : 100), -1);
    if (which != 1) Check.due("BAD first", ask(x, which, 0, 0, -1), -1);
    for (int sort = 1; sort < 5; sort++) {
      x.row(0, sort, 6);
      Check.due(call + " of sort " + sort, ask(x, which, 0, 0, 0), -12);
      Check.due("BAD first", ask(x, which, 0, 4, 0), -1);
      if (which != 1) Check.due("BAD first", ask(x, which, 0, 0, which == 0 ? 6 : 100), -1);
    }
    x.keep(0, 0);
    Check.due(call + " of a body", ask(x, which, 0, 0, 0), -12);
  }

  private static void nights() {
    Check.says("WHO may have been there in night k (0 .. 5); BAD (no such night, too)");
    for (int n = 0; n <= 8; n++) {
      LeftAsFound x = Check.with(1);
      Check.tellBut(x, 0, n, -1, -1, 0);
      for (int k = -1; k < 9; k++) Check.due("night " + k + " of " + n, x.who(0, 0, k), k < 0 || k >= Math.min(n, 6) ? -1 : 1 | NOBODY);
      Check.due("ways of " + n, x.ways(0, 0), 1 << Math.min(n, 6));
    }
    Check.says("6 nights count");
    LeftAsFound x = Check.with(1);
    Check.tellBut(x, 0, 60, 50, 5, 49);
    Check.tellBut(x, 1, 60, 50, 6, 49);
    Check.due("the sixth is not so", x.ways(0, 0), 0);
    for (int k = 0; k < 6; k++) Check.due("it cannot be so", x.who(0, 0, k), 0);
    Check.due("the seventh is none", x.ways(1, 0), 64);
    for (int k = 0; k < 6; k++) Check.due("all may", x.who(1, 0, k), 1 | NOBODY);
  }

  private static void howMany() {
    Check.says("GUESTS (bits; 128: nobody); WAYS: how many rows of GUESTS (and nobody) there are so");
    for (int guests = 0; guests <= 7; guests++) {
      LeftAsFound x = Check.with(guests);
      int all = 1;
      for (int n = 0; n <= 6; n++) {
        Check.tellBut(x, 0, n, 50, -1, 0);
        Check.tellBut(x, 1, n, -1, -1, 0);
        Check.tellBut(x, 2, n, -1, n - 1, 50);
        for (int shelf = 0; shelf < 3; shelf++) {
          Check.due(guests + " guests, " + n + " nights", x.ways(shelf, 3), all);
          if (n > 0) Check.due("who", x.who(shelf, 3, n - 1), (1 << guests) - 1 | NOBODY);
        }
        all *= guests + 1;
      }
    }
    Check.says("LEVELS of one THING behind nights (-1: not seen)");
    for (int v = -128; v < 128; v++) {
      LeftAsFound x = Check.with(0);
      Check.tell(x, 0, v);
      Check.due("seen " + v, x.ways(0, 0), v == -1 || v == 50 ? 1 : 0);
      Check.due("seen " + v, x.who(0, 0, 0), v == -1 || v == 50 ? NOBODY : 0);
    }
    for (int level : new int[] {0, 99}) {
      LeftAsFound x = Check.with(1);
      x.set(1, level);
      Check.tell(x, 0, level);
      Check.due("seen " + level, x.ways(0, 1), 2);
      Check.due("of another thing", x.ways(0, 0), 0);
    }
    LeftAsFound x = Check.with(1);
    x.row(0, 0, 2);
    x.put(0, 0, 255);
    x.put(0, 1, 256 + 50);
    Check.due("by their lowest bits", x.ways(0, 0), 4);
  }

  private static void ways(LeftAsFound x, int ways, int... who) {
    Check.due("ways", x.ways(0, 0), ways);
    for (int k = 0; k < who.length; k++) Check.due("who in night " + k, x.who(0, 0, k), who[k]);
  }

  private static void asTheyComeToBe() {
    Check.says("by all that was seen, later, too");
    LeftAsFound v = new LeftAsFound();
    v.guest(1, 50);
    v.guest(2, 50);
    Check.tell(v, 0, -1, -1, 44);
    ways(v, 1, 2, 2, 2);
    Check.tell(v, 0, -1, -1, 47);
    // 3 as 1 1 1, and 1 2 0 in six orders
    ways(v, 7, 131, 131, 131);
    Check.tell(v, 0, -1, 49, 47);
    ways(v, 2, 1 | NOBODY, 1 | NOBODY, 2);
    Check.tell(v, 0, 49, -1, 43);
    Check.says("(6 nights count; 0: it cannot be so)");
    ways(v, 0, 0, 0, 0);

    Check.says("what each found first .. as they come to be");
    LeftAsFound x = new LeftAsFound();
    x.guest(0, 0);
    x.guest(3, 50);
    x.mend(0, 3, 5);
    Check.tell(x, 0, -1, 47, 50);
    ways(x, 1, 1, 2, 1);
    Check.tell(x, 0, -1, 47, 47);
    // 0 1 -, and 1 0, 1 -, - 1 with 0 or nobody behind
    ways(x, 7, 131, 131, 1 | NOBODY);
    Check.tell(x, 0, 50);
    x.night(0);
    x.set(0, 47);
    ways(x, 1, 1);
    x.forget(0);
    ways(x, 0, 0);

    Check.says("BOOK .. as they come to be");
    LeftAsFound y = new LeftAsFound();
    y.guest(4, 50);
    y.guest(0, 0);
    y.mend(10, 3, 20);
    y.mend(0, 5, 1);
    y.mend(1, 5, 1);
    y.set(0, 40);
    Check.tell(y, 0, -1, 50);
    // 1 1, 1 -, - 1; behind 0 the book says 36
    ways(y, 3, 2 | NOBODY, 2 | NOBODY);
    Check.tell(y, 0, 36, 36);
    ways(y, 2, 1, 2 | NOBODY);

    Check.says("the one ahead as they come to be");
    LeftAsFound z = Check.with(3);
    z.mend(0, 5, 2);
    z.mend(1, 5, 3);
    z.mend(1, 4, 0);
    z.mend(10, 3, 5);
    z.mend(0, 0, 60);
    Check.tell(z, 0, -1, 55);
    // 0 1, - 1, 1 0, 1 2, 1 -; behind 2 it believes 50
    ways(z, 5, 1 | 2 | NOBODY, 1 | 2 | 4 | NOBODY);
    z.night(2);
    // now 2 has been ahead: 1 believes 50, but behind 0
    ways(z, 1, 1, 2);
    Check.says("what each found first, by each guest");
    for (int g = 0; g < 7; g++) {
      LeftAsFound w = Check.with(7);
      w.set(2, 60);
      w.night(g);
      w.set(2, 40);
      for (int other = 0; other < 7; other++) {
        if (other != g) w.night(other);
        w.mend(10 * other + 2, 3, 20);
        w.mend(other, 4, 0);
      }
      Check.tell(w, 0, 60);
      Check.due("guest " + g + " alone", w.who(0, 2, 0), 1 << g);
      Check.due("ways", w.ways(0, 2), 1);
    }
    Check.says("of this row alone, whatever was read before");
    LeftAsFound u = Check.taker(1);
    Check.tell(u, 0, 50, 50, 50, 50, 50, 50);
    ways(u, 1, NOBODY, NOBODY, NOBODY, NOBODY, NOBODY, NOBODY);
    Check.tell(u, 0, -1, -1);
    u.set(0, 40);
    ways(u, 4, 1 | NOBODY, 1 | NOBODY);
    Check.tell(u, 0, 40, -1, -1);
    ways(u, 4, NOBODY, 1 | NOBODY, 1 | NOBODY);
    Check.says("from now on; by a law, too");
    Check.enact(z, "t-k;99");
    Check.tell(z, 0, 50);
    ways(z, 8 / 2, 7 | NOBODY);
    Check.enact(z, "o-f");
    Check.tell(z, 0, 60);
    ways(z, 1, 1);
    for (int level : new int[] {0, 50, 99}) {
      LeftAsFound w = Check.with(7);
      Check.setAll(w, level);
      for (String law : new String[] {"0", "5-f/9", "0", "-7+(f=0)*15"}) {
        Check.enact(w, law);
        w.row(0, 0, 1);
        int behind = w.level(0, 0, 1);
        Check.tell(w, 0, behind);
        ways(w, behind == level ? 8 : 7, behind == level ? 255 : 127);
      }
    }
  }

  private static void judge() {
    Check.says("ss: 10 times the SHELF of STAYS and that of what was SEEN");
    LeftAsFound x = allShelves();
    for (int ss = -12; ss < 72; ss++) {
      boolean there = ss >= 0 && ss / 10 < 6 && ss % 10 < 6;
      Check.due("ss " + ss, x.judge(ss, 0), there ? -2 : -1);
    }
    for (int ss : new int[] {Check.MIN, Check.MAX, 1000, -100}) Check.due("ss " + ss, x.judge(ss, 0), -1);
    Check.says("BAD, -11, -12 (no ROWS of bytes); NOT");
    LeftAsFound y = new LeftAsFound();
    y.body(0);
    y.keep(1, 0);
    y.row(2, 1, 3);
    y.row(3, 0, 3);
    // 0 nothing, 1 a body, 2 shorts, 3 bytes
    for (int a = 0; a < 4; a++) {
      for (int b = 0; b < 4; b++) {
        int due = a == 0 || b == 0 ? -11 : a < 3 || b < 3 ? -12 : 0;
        Check.due("judge " + a + b, y.judge(10 * a + b, 0), due);
        Check.due("BAD first", y.judge(10 * a + b, 4), -1);
        Check.due("BAD first", y.judge(10 * a + b, -1), -1);
      }
    }
    Check.says("the first night behind which it is not so (as far as both go); NOT");
    LeftAsFound z = Check.taker(1);
    for (int stays : new int[] {0, 1, 5, 7, 30, 60}) {
      z.row(0, 0, stays);
      for (int seen : new int[] {0, 1, 6, 7, 29, 30}) {
        int both = Math.min(seen, Math.min(stays, 30));
        z.row(1, 0, seen);
        Check.due(stays + " and " + seen, z.judge(1, 0), both == 0 ? -2 : 0);
      }
    }
    z = Check.taker(1);
    z.row(0, 0, 60);
    z.row(1, 0, 60);
    for (int i = 0; i < 30; i++) z.put(1, i, 49 - i);
    Check.due("so it is; 30 count", z.judge(1, 0), -2);
    for (int i : new int[] {29, 28, 6, 5, 0}) {
      z.put(1, i, 50 - i);
      Check.due("not so in night " + i, z.judge(1, 0), i);
      z.put(1, i, -1);
      Check.due("not seen", z.judge(1, 0), -2);
      z.put(1, i, 49 - i);
    }
    z.put(1, 3, -2);
    Check.due("-2 is never so", z.judge(1, 0), 3);
    z.put(1, 3, 100);
    Check.due("100 is never so", z.judge(1, 0), 3);
    z.row(0, 0, 0);
    Check.due("of no nights", z.judge(1, 0), -2);
    z.row(0, 0, 60);
    z.row(1, 0, 0);
    Check.due("nothing seen", z.judge(1, 0), -2);
    Check.due("one row told for both", z.judge(0, 0), 0);
    z.set(0, 0);
    Check.due("one row told for both", z.judge(0, 0), -2);
  }

  private static void since() {
    Check.says("the last night behind which a THING lacked no more than x (0 on; NOT: never, and so ahead, too)");
    LeftAsFound x = Check.taker(1);
    x.row(0, 0, 60);
    // behind night i it lacks i + 1
    for (int v = 0; v < 100; v++) Check.due("x " + v, x.since(0, 0, v), v == 0 ? -2 : Math.min(v - 1, 29));
    x.set(0, 51);
    Check.due("just as it ought to be", x.since(0, 0, 0), 0);
    x.set(0, 99);
    Check.due("above", x.since(0, 0, 0), 29);
    x.set(0, 70);
    Check.due("above for a while", x.since(0, 0, 0), 19);
    x.mend(0, 0, 99);
    x.set(0, 0);
    Check.due("all lacks", x.since(0, 0, 98), -2);
    Check.due("all lacks", x.since(0, 0, 99), 29);
    x.row(0, 0, 0);
    Check.due("of no nights", x.since(0, 0, 99), -2);
    x.mend(0, 1, 9);
    Check.tell(x, 0, 9);
    Check.due("by units, not by worth", x.since(0, 0, 99), 0);
    Check.enact(x, "f=49?3;f=52?-3;-1");
    x.set(0, 50);
    x.mend(0, 0, 50);
    Check.tell(x, 0, 0, 0, 0, 0, 0);
    // 49, 52, 49, 52, 49
    Check.due("the last, not the first", x.since(0, 0, 0), 3);
    Check.due("the last", x.since(0, 0, 1), 4);
  }

  private static void drawn() {
    Check.says("n nights (1 .. 60) by a SEED; BAD");
    Check.range("drawn(.., n, ..)", n -> Check.taker(1).drawn(5, n, 0), 1, 60, -1);
    Check.range("drawn(.., what)", what -> Check.taker(1).drawn(5, 9, what), 0, 1, -1);
    Check.says("z = z * 1103515245 + 12345 (an int; SEED at first) ahead of each: GUEST (z >>> 8) % (GUESTS and 1): the last: nobody");
    int[] seeds = {0, 1, -1, 7, Check.MIN, Check.MAX, -123456789, 1 << 30};
    for (int guests = 0; guests <= 7; guests++) {
      for (int seed : seeds) {
        LeftAsFound x = new LeftAsFound();
        for (int g = 0; g < guests; g++) x.guest(g, 50);
        x.mend(0, 1, 3);
        long z = seed & 0xFFFFFFFFL;
        int level = 50, least = 99, sum = 0;
        for (int n = 1; n <= 60; n++) {
          z = (z * 1103515245L + 12345L) & 0xFFFFFFFFL;
          int g = (int) ((z >> 8) % (guests + 1));
          level = Math.max(0, level - (g < guests ? g : 0));
          least = Math.min(least, level);
          sum += 6 * (50 - level);
          Check.due("loss of " + n + " by " + seed, x.drawn(seed, n, 0), sum);
          Check.due("lowest of " + n + " by " + seed, x.drawn(seed, n, 1), least);
        }
        Check.due("in thought", x.count(1), 0);
      }
    }
    Check.says("the LOWEST LEVEL of THING 0");
    LeftAsFound x = Check.with(1);
    Check.enact(x, "k=0?7;-7");
    // by seed 0 guest 0 comes in the first night
    Check.due("behind nights alone", x.drawn(0, 1, 1), 57);
    x.set(0, 99);
    Check.due("99", x.drawn(0, 60, 1), 99);
  }

  public static void main(String[] args) {
    shelves();
    nights();
    howMany();
    asTheyComeToBe();
    judge();
    since();
    drawn();
    Check.end("readings");
  }
}
