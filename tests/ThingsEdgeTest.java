/** The edges of promises 1 to 5: things, guests, what a night of a guest does, guests from a row. */
public final class ThingsEdgeTest {
  private static final int OUGHT = 0, TAKES = 2, BRINGS = 3, SEES = 4, BELIEVES = 5, RULE = 6, LEVEL = 10, BOOK = 11, FOUND = 12;
  private static final int[] TOPS = {99, 9, 9, 20, 50, 3, 50, 999, 12};
  private static final int[] AT_FIRST = {50, 1, 1, 0, 5, 0, 50, 20, 6};

  private static void atFirst() {
    Check.says("A hut as it ought to be, nobody yet");
    LeftAsFound x = new LeftAsFound();
    for (int what = 0; what < 6; what++) Check.due("count " + what, x.count(what), 0);
    for (int number = -1; number < 71; number++) {
      for (int what = 2; what < 6; what++) Check.due("of nobody", x.of(number, what), Check.BAD);
      Check.due("of nobody", x.of(number, FOUND), Check.BAD);
    }
    Check.says("LEVEL (0 .. 99; 50 at first), OUGHT (0 .. 99; 50 at first), WORTH of a unit (0 .. 9; 1 at first)");
    for (int thing = 0; thing < 4; thing++) {
      Check.due("LEVEL", x.of(thing, LEVEL), 50);
      Check.due("OUGHT", x.of(thing, 0), 50);
      Check.due("WORTH", x.of(thing, 1), 1);
      Check.due("BOOK", x.of(thing, BOOK), 50);
    }
    Check.says("RULE (0 .. 50; 50 at first); PRICE (0 .. 999; 20 at first); HONEST (0 .. 12; 6 at first)");
    for (int what = 6; what < 9; what++) Check.due("of " + what, x.of(0, what), AT_FIRST[what]);
    Check.says("each hold nothing (at first)");
    for (int shelf = 0; shelf < 6; shelf++) Check.due("taken", x.taken(shelf, 0), Check.NOTHING);
    Check.says("objects do not touch one another");
    LeftAsFound y = new LeftAsFound();
    x.guest(9, 9);
    x.set(0, 1);
    x.mend(0, 0, 7);
    x.feed('f');
    x.row(0, 0, 3);
    x.image();
    Check.due("count", y.count(0) + y.count(2) + y.count(3), 0);
    Check.due("LEVEL", y.of(0, LEVEL), 50);
    Check.due("OUGHT", y.of(0, 0), 50);
    Check.due("loss", y.loss(0), Check.NOTHING);
    Check.due("back", y.back(), Check.STATE);
  }

  private static void levels() {
    Check.says("LEVEL (0 .. 99; 50 at first)");
    for (int thing = 0; thing < 4; thing++) {
      final int k = thing;
      Check.range("set(" + k + ", v)", v -> new LeftAsFound().set(k, v), 0, 99, Check.BAD);
    }
    Check.range("set(thing, 1)", thing -> new LeftAsFound().set(thing, 1), 0, 3, Check.BAD);
    Check.says("LEVEL stays 0 .. 99");
    int[] ahead = {0, 8, 9, 10}, behind = {0, 0, 0, 1};
    LeftAsFound x = Check.taker(9);
    for (int thing = 0; thing < 4; thing++) x.set(thing, ahead[thing]);
    x.night(0);
    for (int thing = 0; thing < 4; thing++) Check.due("9 less than " + ahead[thing], x.of(thing, LEVEL), behind[thing]);
    int[] low = {78, 79, 80, 99}, high = {98, 99, 99, 99};
    LeftAsFound y = Check.with(1);
    Check.due("law", Check.enact(y, "20"), 1);
    for (int thing = 0; thing < 4; thing++) y.set(thing, low[thing]);
    y.night(0);
    for (int thing = 0; thing < 4; thing++) Check.due("20 more than " + low[thing], y.of(thing, LEVEL), high[thing]);
  }

  /** Of what a number is, in a hut with two guests; the last that there is. */
  private static int lastNumber(int what) { return what < 2 ? 3 : what < 4 ? 13 : what < 6 ? 1 : 0; }

  private static void numbers() {
    for (int what = 0; what < 9; what++) {
      final int w = what, number = lastNumber(what);
      Check.says("0 .. " + TOPS[w] + " (what " + w + ")");
      Check.range("mend(" + number + ", " + w + ", v)", v -> {
        LeftAsFound x = Check.with(2);
        int was = x.of(number, w);
        int answer = x.mend(number, w, v);
        Check.due("it is told then", x.of(number, w), answer == Check.BAD ? was : v);
        return answer;
      }, 0, TOPS[w], Check.BAD);
      Check.says("no such number (what " + w + ")");
      Check.range("mend", n -> Check.with(2).mend(n, w, 1), 0, number, Check.BAD);
      Check.range("of", n -> Check.with(2).of(n, w), 0, number, Check.BAD);
    }
    Check.says("OUGHT (what 0) .. HONEST (8)");
    Check.range("mend", what -> Check.with(1).mend(0, what, 0), 0, 8, Check.BAD);
    Check.says("As of mend() (0 to 8); of a THING 10 LEVEL, 11 THE BOOK; of gt 12");
    Check.range("of", what -> what == 9 ? 0 : Check.with(1).of(0, what), 0, 12, Check.BAD);
    Check.due("of 9", Check.with(1).of(0, 9), Check.BAD);
    for (int what : new int[] {LEVEL, BOOK}) Check.range("of", n -> Check.with(7).of(n, what), 0, 3, Check.BAD);
    Check.range("of 12", n -> Check.with(2).of(n, FOUND), 0, 13, Check.BAD);
    Check.says("mend(): what it was");
    LeftAsFound x = Check.with(1);
    for (int what = 0; what < 9; what++) {
      int was = what == SEES ? 50 : what == TAKES ? 0 : AT_FIRST[what];
      Check.due("at first", x.mend(0, what, TOPS[what]), was);
      Check.due("then the most", x.mend(0, what, 0), TOPS[what]);
      Check.due("then the least", x.mend(0, what, 0), 0);
      Check.due("of", x.of(0, what), 0);
    }
  }

  private static void gt() {
    Check.says("gt: 10 times the GUEST, and the THING");
    for (int guests = 0; guests <= 7; guests++) {
      LeftAsFound x = Check.with(guests);
      for (int number = -11; number < 82; number++) {
        boolean there = number >= 0 && number / 10 < guests && number % 10 < 4;
        Check.due("takes of " + number, x.of(number, TAKES), there ? 0 : Check.BAD);
        Check.due("found of " + number, x.of(number, FOUND), there ? Check.NOT : Check.BAD);
      }
    }
    for (int what = TAKES; what <= BRINGS; what++) {
      LeftAsFound x = Check.with(7);
      for (int g = 0; g < 7; g++) {
        for (int thing = 0; thing < 4; thing++) Check.due("mend", x.mend(10 * g + thing, what, (g + thing) % 9 + 1), 0);
        for (int none = 4; none < 10; none++) Check.due("thing " + none, x.mend(10 * g + none, what, 1), Check.BAD);
      }
      for (int g = 0; g < 7; g++) {
        for (int thing = 0; thing < 4; thing++) Check.due("each its own", x.of(10 * g + thing, what), (g + thing) % 9 + 1);
      }
    }
    LeftAsFound x = Check.with(7);
    for (int g = 0; g < 7; g++) {
      x.mend(g, SEES, g + 1);
      x.mend(g, BELIEVES, g % 4);
    }
    for (int g = 0; g < 7; g++) {
      Check.due("sees", x.of(g, SEES), g + 1);
      Check.due("believes", x.of(g, BELIEVES), g % 4);
    }
    Check.says("RULE (6), PRICE (7), HONEST (8; number 0 for these)");
    for (int what = 6; what < 9; what++) Check.due("number 1", x.mend(1, what, 1), Check.BAD);
  }

  private static int countOf(int what) { return what < 2 ? 4 : what < 4 ? 28 : what < 6 ? 7 : 1; }

  private static void eachItsOwn() {
    Check.says("OUGHT, WORTH of a THING, TAKES, BRINGS of gt, SEES, BELIEVES of a GUEST, RULE, PRICE, HONEST becomes v");
    LeftAsFound x = Check.with(7);
    for (int round = 0; round < 2; round++) {
      for (int what = 0; what < 9; what++) {
        for (int i = 0; i < countOf(what); i++) x.mend(countOf(what) == 28 ? i / 4 * 10 + i % 4 : i, what, (7 * i + what + round) % (TOPS[what] + 1));
      }
      for (int what = 0; what < 9; what++) {
        for (int i = 0; i < countOf(what); i++) {
          int number = countOf(what) == 28 ? i / 4 * 10 + i % 4 : i;
          Check.due("of(" + number + ", " + what + ")", x.of(number, what), (7 * i + what + round) % (TOPS[what] + 1));
        }
      }
    }
    Check.says("A NIGHT of a GUEST: by its own numbers, of each THING");
    for (int g = 0; g < 7; g++) {
      LeftAsFound y = Check.with(7);
      for (int thing = 0; thing < 4; thing++) {
        y.mend(10 * g + thing, TAKES, thing);
        y.mend(10 * g + thing, BRINGS, 2 * thing + 4);
        y.set(thing, 40 + thing);
      }
      y.mend(g, SEES, 8);
      y.mend(g, BELIEVES, 2);
      y.night(g);
      // 10, 9, 8, 7 lack: of the last two it sees nothing
      int[] behind = {44, 46, 40, 40};
      for (int thing = 0; thing < 4; thing++) Check.due("thing " + thing + " behind " + g, y.of(thing, LEVEL), behind[thing]);
      for (int other = 0; other < 7; other++) {
        for (int thing = 0; thing < 4; thing++) {
          Check.due("found by " + other, y.of(10 * other + thing, FOUND), other == g ? 40 + thing : Check.NOT);
        }
      }
    }
  }

  private static void guest() {
    Check.says("A GUEST who TAKES as much of all THINGS, SEES: its number. BAD, FULL: 7");
    Check.range("guest(v, 0)", v -> new LeftAsFound().guest(v, 0), 0, 9, Check.BAD);
    Check.range("guest(0, v)", v -> new LeftAsFound().guest(0, v), 0, 50, Check.BAD);
    LeftAsFound x = new LeftAsFound();
    for (int g = 0; g < 7; g++) {
      Check.due("refused", x.guest(10, g), Check.BAD);
      Check.due("its number", x.guest(g, 50 - g), g);
      Check.due("count", x.count(0), g + 1);
    }
    for (int i = 0; i < 3; i++) Check.due("the eighth", x.guest(0, 0), Check.FULL);
    Check.due("bad, though full", x.guest(-1, 0), Check.BAD);
    Check.due("bad, though full", x.guest(0, 51), Check.BAD);
    Check.due("count", x.count(0), 7);
    for (int g = 0; g < 7; g++) {
      for (int thing = 0; thing < 4; thing++) {
        Check.due("TAKES of all", x.of(10 * g + thing, TAKES), g);
        Check.due("BRINGS 0 at first", x.of(10 * g + thing, BRINGS), 0);
        Check.due("never there", x.of(10 * g + thing, FOUND), Check.NOT);
      }
      Check.due("SEES", x.of(g, SEES), 50 - g);
      Check.due("BELIEVES 0 at first", x.of(g, BELIEVES), 0);
    }
  }

  /** The level behind a night of a guest by the picture who sees, takes, brings so much, ahead of it, and OUGHT. */
  private static int behind(int sees, int rule, int takes, int brings, int level, int ought) {
    LeftAsFound x = new LeftAsFound();
    x.guest(takes, sees);
    x.mend(0, BRINGS, brings);
    x.mend(0, BELIEVES, 2);
    x.mend(0, RULE, rule);
    x.mend(0, OUGHT, ought);
    x.set(0, level);
    x.night(0);
    return x.of(0, LEVEL);
  }

  private static void sees() {
    Check.says("SEES (0 .. 50: so many units may lack, and it sees nothing; 5 at first)");
    Check.due("none lacks, sees 0", behind(0, 50, 0, 3, 50, 50), 50);
    Check.due("one lacks, sees 0", behind(0, 50, 0, 3, 49, 50), 50);
    Check.due("one lacks, sees 1", behind(1, 50, 0, 3, 49, 50), 49);
    Check.due("two lack, sees 1", behind(1, 50, 0, 3, 48, 50), 50);
    Check.due("50 lack, sees 50", behind(50, 50, 0, 3, 49, 99), 49);
    Check.due("51 lack, sees 50", behind(50, 50, 0, 3, 48, 99), 51);
    Check.due("99 lack, sees 50", behind(50, 50, 0, 3, 0, 99), 3);
    Check.due("too much is there", behind(0, 50, 2, 3, 51, 50), 49);
    Check.says("RULE (0 .. 50; 50 at first): nobody's SEES counts as more");
    Check.due("sees 50, rule 4, 4 lack", behind(50, 4, 0, 3, 46, 50), 46);
    Check.due("sees 50, rule 4, 5 lack", behind(50, 4, 0, 3, 45, 50), 48);
    Check.due("sees 50, rule 0, none lacks", behind(50, 0, 0, 3, 50, 50), 50);
    Check.due("sees 50, rule 0, one lacks", behind(50, 0, 0, 3, 49, 50), 50);
    Check.due("sees 3, rule 4, 4 lack: a rule makes nobody see less", behind(3, 4, 0, 3, 46, 50), 49);
    Check.due("sees 4, rule 4, 4 lack", behind(4, 4, 0, 3, 46, 50), 46);
    Check.due("sees 49, rule 50, 50 lack", behind(49, 50, 0, 3, 49, 99), 52);
  }

  private static void brings() {
    Check.says("b less t, but no further than o");
    Check.due("one short of it", behind(0, 50, 1, 5, 45, 50), 49);
    Check.due("just to it", behind(0, 50, 1, 6, 45, 50), 50);
    Check.due("not above it", behind(0, 50, 1, 7, 45, 50), 50);
    Check.due("by far not above it", behind(0, 50, 0, 20, 49, 50), 50);
    Check.due("the most", behind(0, 50, 0, 20, 0, 99), 20);
    Check.due("to 99", behind(0, 50, 0, 20, 79, 99), 99);
    Check.due("to 99 and no further", behind(0, 50, 0, 20, 80, 99), 99);
    Check.due("as much as it takes", behind(0, 50, 6, 6, 45, 50), 45);
    Check.due("less than it takes", behind(0, 50, 9, 2, 45, 50), 38);
    Check.due("less than it takes, from 0 on", behind(0, 50, 9, 2, 3, 50), 0);
    Check.says("else 0 less t");
    Check.due("it sees nothing, so it brings nothing", behind(5, 50, 1, 20, 45, 50), 44);
    Check.due("above what it ought to be", behind(0, 50, 3, 20, 99, 50), 96);
    Check.due("just as it ought to be", behind(0, 50, 3, 20, 50, 50), 47);
  }

  /** Guest g believes by g; all take nothing, see all, and bring 5 of thing 0. */
  private static LeftAsFound believers() {
    LeftAsFound x = new LeftAsFound();
    for (int g = 0; g < 4; g++) {
      x.guest(0, 0);
      x.mend(10 * g, BRINGS, 5);
      x.mend(g, BELIEVES, g);
    }
    return x;
  }

  private static void night(LeftAsFound x, int guest, int ahead, int behind) {
    x.set(0, ahead);
    x.night(guest);
    Check.due("guest " + guest + " who finds " + ahead, x.of(0, LEVEL), behind);
  }

  private static void believes() {
    Check.says("what it found the first time it ever came (as of now, if this is it)");
    LeftAsFound x = believers();
    night(x, 0, 30, 30);
    Check.due("found", x.of(0, FOUND), 30);
    night(x, 0, 20, 25);
    Check.due("found stays", x.of(0, FOUND), 30);
    night(x, 0, 28, 30);
    night(x, 0, 31, 31);
    x.forget(0);
    Check.due("never there", x.of(0, FOUND), Check.NOT);
    night(x, 0, 0, 0);
    Check.due("0 is found, too", x.of(0, FOUND), 0);
    Check.due("so it has been there", x.count(1), 1);
    night(x, 0, 1, 1);
    x.forget(0);
    night(x, 0, 99, 99);
    Check.due("99", x.of(0, FOUND), 99);
    night(x, 0, 90, 95);
    Check.says("of each THING it finds f");
    Check.due("thing 3 was found, too", x.of(3, FOUND), 50);

    Check.says("what THE BOOK says; THE BOOK: of each THING a level (0 .. 99; 50 at first)");
    LeftAsFound y = believers();
    night(y, 1, 48, 50);
    Check.due("it writes 50", y.of(0, BOOK), 50);
    night(y, 1, 0, 5);
    Check.due("it writes 5", y.of(0, BOOK), 5);
    night(y, 1, 99, 99);
    Check.due("it writes 99", y.of(0, BOOK), 99);
    y.mend(10, TAKES, 9);
    night(y, 1, 99, 90);
    night(y, 1, 3, 0);
    Check.due("it writes 0", y.of(0, BOOK), 0);
    Check.due("of thing 3, too", y.of(3, BOOK), 50);
    Check.says("A GUEST who believes THE BOOK writes into it behind its NIGHT what LEVELS are then");
    for (int g : new int[] {0, 2, 3}) {
      night(y, g, 70, 70);
      Check.due("guest " + g + " does not", y.of(0, BOOK), 0);
    }
    y.mend(1, BELIEVES, 2);
    night(y, 1, 70, 61);
    Check.due("nor one who does no longer", y.of(0, BOOK), 0);
    y.mend(2, BELIEVES, 1);
    night(y, 2, 70, 70);
    Check.due("one who does now", y.of(0, BOOK), 70);
    aheadAndPicture();
  }

  private static void aheadAndPicture() {
    Check.says("OUGHT");
    LeftAsFound x = believers();
    night(x, 2, 48, 50);
    x.mend(0, OUGHT, 49);
    night(x, 2, 48, 49);
    x.mend(0, OUGHT, 0);
    night(x, 2, 48, 48);
    x.mend(0, OUGHT, 99);
    night(x, 2, 97, 99);

    Check.says("or what the one ahead believed (OUGHT, if it is the first)");
    LeftAsFound y = believers();
    y.mend(0, OUGHT, 60);
    night(y, 3, 58, 60);
    y.mend(0, OUGHT, 70);
    night(y, 3, 58, 60);
    night(y, 0, 20, 20);
    night(y, 3, 18, 20);
    night(y, 3, 10, 15);
    night(y, 3, 18, 20);
    y.mend(0, BELIEVES, 2);
    night(y, 3, 18, 20);
    y.forget(3);
    y.forget(0);
    night(y, 3, 18, 20);
    night(y, 2, 68, 70);
    night(y, 3, 68, 70);
    y.mend(10, TAKES, 9);
    night(y, 1, 55, 46);
    night(y, 3, 48, 50);
    Check.due("what was believed, not what was written", y.of(0, BOOK), 46);
    night(y, 3, 48, 50);
    Check.says("(30 count; one that is none: the hut is empty, nothing changes)");
    y.set(0, 48);
    Check.tell(y, 0, 2, 9, 9, 3);
    Check.due("the one ahead of empty nights", y.level(0, 0, 4), 58);
  }

  private static void fromARow() {
    String words = "it ends where the row is missing, ends (within a three, too), one is not as it may be, or GUESTS are FULL";
    Check.says(words);
    for (int n = 0; n < 8; n++) {
      for (int i = 0; i < 9; i++) {
        LeftAsFound x = new LeftAsFound();
        x.row(0, 0, n);
        int came = i > n ? 0 : (n - i) / 3;
        Check.due("row of " + n + " from " + i, x.guests(0, i, 7), came);
        Check.due("those ahead came", x.count(0), came);
      }
    }
    int[] most = {9, 50, 3};
    for (int part = 0; part < 3; part++) {
      for (int at = part; at < 9; at += 3) {
        final int place = at;
        for (int v : new int[] {-1, -128, most[part] + 1, 127}) {
          LeftAsFound x = new LeftAsFound();
          x.row(0, 0, 9);
          x.put(0, place, v);
          Check.due("place " + place + " is " + v, x.guests(0, 0, 7), place / 3);
          Check.due("those ahead came", x.count(0), place / 3);
        }
        LeftAsFound x = new LeftAsFound();
        x.row(0, 0, 9);
        x.put(0, place, most[part]);
        Check.due("as it may be", x.guests(0, 0, 7), 3);
        int told = part == 0 ? x.of(place / 3 * 10 + 3, TAKES) : x.of(place / 3, part == 1 ? SEES : BELIEVES);
        Check.due("told", told, most[part]);
      }
    }
    for (int here = 0; here <= 7; here++) {
      LeftAsFound x = Check.with(here);
      x.row(5, 0, 60);
      Check.due("behind " + here, x.guests(5, 0, 7), 7 - here);
      Check.due("full", x.guests(5, 0, 7), 0);
      Check.due("count", x.count(0), 7);
    }
    LeftAsFound x = new LeftAsFound();
    for (int shelf = 0; shelf < 6; shelf++) Check.due("missing", x.guests(shelf, 0, 1), 0);
    for (int i : new int[] {-1, -3, Check.MIN, Check.MAX, Check.MAX - 2}) {
      Check.due("missing", x.guests(0, i, 7), 0);
      x.row(1, 0, 60);
      Check.due("a place that is none of the row", x.guests(1, i, 7), 0);
    }
    Check.due("nobody came", x.count(0), 0);
    Check.says("n (1 .. 7) of them: how many came");
    Check.range("guests", n -> {
      LeftAsFound y = new LeftAsFound();
      y.row(0, 0, 60);
      int came = y.guests(0, 0, n);
      Check.due("count", y.count(0), came == Check.BAD ? 0 : n);
      return came;
    }, 1, 7, Check.BAD);
    fromAnotherRow();
  }

  private static void fromAnotherRow() {
    Check.says("BAD, -12 (no ROW of bytes; a SHELF that holds nothing is missing)");
    Check.range("guests", shelf -> new LeftAsFound().guests(shelf, 0, 1), 0, 5, Check.BAD);
    LeftAsFound x = new LeftAsFound();
    x.body(0);
    for (int sort = 1; sort < 5; sort++) {
      x.row(0, sort, 60);
      Check.due("sort " + sort, x.guests(0, 0, 1), Check.OTHER_KIND);
      Check.due("whatever the place", x.guests(0, -1, 1), Check.OTHER_KIND);
      Check.due("BAD first", x.guests(0, 0, 0), Check.BAD);
      Check.due("BAD first", x.guests(0, 0, 8), Check.BAD);
    }
    x.keep(0, 0);
    Check.due("a body", x.guests(0, 0, 1), Check.OTHER_KIND);
    Check.due("BAD first", x.guests(0, 0, 8), Check.BAD);
    Check.due("BAD first", x.guests(1, 0, 8), Check.BAD);
    LeftAsFound full = Check.with(7);
    full.row(0, 2, 3);
    Check.due("-12, though full", full.guests(0, 0, 1), Check.OTHER_KIND);
    Check.says("by threes TAKES (of all THINGS), SEES, BELIEVES");
    LeftAsFound y = new LeftAsFound();
    Check.tell(y, 0, 8, 1, 2, 3, 4, 5, 1, 2);
    Check.due("from 1 on", y.guests(0, 1, 2), 2);
    for (int thing = 0; thing < 4; thing++) {
      Check.due("takes", y.of(thing, TAKES), 1);
      Check.due("takes", y.of(10 + thing, TAKES), 4);
      Check.due("brings", y.of(10 + thing, BRINGS), 0);
    }
    Check.due("sees", y.of(0, SEES), 2);
    Check.due("sees", y.of(1, SEES), 5);
    Check.due("believes", y.of(0, BELIEVES), 3);
    Check.due("believes", y.of(1, BELIEVES), 1);
    Check.due("that is no change", y.count(3), 0);
  }

  public static void main(String[] args) {
    atFirst();
    levels();
    numbers();
    gt();
    eachItsOwn();
    guest();
    sees();
    brings();
    believes();
    fromARow();
    Check.end("things");
  }
}
