/** The edges of promises 23 to 30: nights in deed, what is led, the image, changes undone and done again. */
public final class DeedEdgeTest {
  private static void guests() {
    Check.says("NIGHT of a GUEST. BAD; FORGET: 1, 0: it had never been there. BAD");
    for (int guests = 0; guests <= 7; guests++) {
      final int n = guests;
      for (int g : new int[] {-1, Check.MIN, n, 7, 10, 128, Check.MAX}) {
        LeftAsFound x = Check.with(n);
        Check.due("night of " + g, x.night(g), -1);
        Check.due("forget " + g, x.forget(g), -1);
        Check.due("no night", x.led(0), 0);
        Check.due("nobody there", x.count(1), 0);
      }
      LeftAsFound x = Check.with(n);
      for (int g = 0; g < n; g++) {
        Check.due("never there", x.forget(g), 0);
        Check.due("night", x.night(g), 0);
        Check.due("there", x.count(1), g + 1);
        Check.due("again", x.night(g), 0);
        Check.due("there once", x.count(1), g + 1);
      }
      for (int g = 0; g < n; g++) {
        Check.due("forget", x.forget(g), 1);
        Check.due("forgotten", x.forget(g), 0);
        Check.due("there", x.count(1), n - g - 1);
      }
      Check.due("the nights were", x.led(0), 2 * n);
    }
  }

  private static void nights() {
    Check.says("what all THINGS lack behind it, by WORTH");
    LeftAsFound x = Check.with(1);
    int[] levels = {49, 50, 51, 0};
    for (int thing = 0; thing < 4; thing++) x.set(thing, levels[thing]);
    Check.due("1, 0, 0, 50", x.night(0), 51);
    x.mend(0, 1, 9);
    x.mend(3, 1, 0);
    Check.due("by worth", x.night(0), 9);
    Check.setAll(x, 0);
    for (int thing = 0; thing < 4; thing++) {
      x.mend(thing, 0, 99);
      x.mend(thing, 1, 9);
    }
    Check.due("the most", x.night(0), 4 * 99 * 9);
    Check.setAll(x, 99);
    Check.due("nothing", x.night(0), 0);
    for (int thing = 0; thing < 4; thing++) x.mend(thing, 0, 0);
    Check.due("OUGHT 0", x.night(0), 0);
    Check.says("LEVEL of a THING is SET to v: what it was. BAD");
    LeftAsFound y = new LeftAsFound();
    for (int thing = 0; thing < 4; thing++) {
      Check.due("50 at first", y.set(thing, 0), 50);
      Check.due("0", y.set(thing, 99), 0);
      Check.due("99", y.set(thing, 99), 99);
      Check.due("-1", y.set(thing, -1), -1);
      Check.due("100", y.set(thing, 100), -1);
      Check.due("it stays", y.of(thing, 10), 99);
      Check.due("the book stays", y.of(thing, 11), 50);
    }
    Check.due("that is no change", y.undo(), -5);
    Check.due("and no night", y.led(0), 0);
  }

  private static void led(LeftAsFound x, int nights, int loss, int worst, int guest) {
    Check.due("nights", x.led(0), nights);
    Check.due("loss", x.led(1), loss);
    Check.due("worst", x.led(2), worst);
    Check.due("its guest", x.led(3), guest);
  }

  private static void led() {
    Check.says("nights (what 0), LOSS (1), the worst (2; 0), its GUEST (3; NOT). BAD");
    Check.range("led", what -> what == 0 ? 0 : new LeftAsFound().led(what), 0, 3, -1);
    LeftAsFound x = Check.with(7);
    led(x, 0, 0, 0, -2);
    x.night(7);
    x.night(-1);
    Check.says("LED: nights, empty ones none");
    led(x, 0, 0, 0, -2);
    Check.says("all LOSS, the worst night (LOSS), its GUEST (NOT; the first such)");
    x.night(6);
    led(x, 1, 0, 0, 6);
    x.set(0, 49);
    x.night(5);
    led(x, 2, 1, 1, 5);
    x.night(4);
    led(x, 3, 2, 1, 5);
    x.set(0, 48);
    x.night(0);
    led(x, 4, 4, 2, 0);
    x.set(0, 50);
    x.night(1);
    led(x, 5, 4, 2, 0);
    Check.says("what LED tells is led: what is mended, forgotten or thought of later changes nothing");
    x.mend(0, 0, 99);
    x.mend(0, 1, 9);
    x.forget(0);
    x.set(1, 0);
    x.drawn(5, 60, 0);
    led(x, 5, 4, 2, 0);
    LeftAsFound y = Check.with(1);
    for (int thing = 0; thing < 4; thing++) {
      y.mend(thing, 0, 99);
      y.mend(thing, 1, 9);
    }
    Check.setAll(y, 0);
    for (int i = 1; i <= 400; i++) y.night(0);
    led(y, 400, 400 * 3564, 3564, 0);
  }

  private static void image() {
    Check.says("It is laid back .. STATE: there is none");
    LeftAsFound x = Check.with(2);
    Check.due("none", x.back(), -5);
    x.night(0);
    Check.due("none", x.back(), -5);
    Check.due("the night stays", x.led(0), 1);
    Check.says("AN IMAGE is kept: nights");
    LeftAsFound y = new LeftAsFound();
    Check.due("of a new hut", y.image(), 0);
    Check.due("back", y.back(), 0);
    Check.says("AN IMAGE keeps LEVELS, THE BOOK, who was there, what each found first, what the one ahead believed, what LED tells");
    LeftAsFound z = Check.with(3);
    z.mend(0, 5, 1);
    for (int thing = 0; thing < 4; thing++) z.set(thing, 10 * thing + 9);
    z.night(0);
    z.night(2);
    z.set(3, 77);
    Check.due("nights", z.image(), 2);
    z.mend(1, 5, 1);
    Check.setAll(z, 99);
    z.night(1);
    z.forget(2);
    z.forget(0);
    z.night(0);
    for (int again = 0; again < 3; again++) {
      Check.due("nights", z.back(), 2);
      for (int thing = 0; thing < 4; thing++) {
        Check.due("LEVEL", z.of(thing, 10), thing == 3 ? 77 : 10 * thing + 9);
        Check.due("BOOK", z.of(thing, 11), 10 * thing + 9);
        Check.due("found of 0", z.of(thing, 12), 10 * thing + 9);
        Check.due("found of 1", z.of(10 + thing, 12), -2);
        Check.due("found of 2", z.of(20 + thing, 12), 10 * thing + 9);
      }
      Check.due("who was there", z.count(1), 2);
      led(z, 2, 2 * (41 + 31 + 21 + 11), 104, 0);
      Check.setAll(z, 0);
      z.night(1);
    }
    Check.says("GUESTS that came since: never there");
    Check.due("one came", z.guest(1, 1), 3);
    z.night(3);
    z.back();
    Check.due("it stays a guest", z.count(0), 4);
    Check.due("never there", z.of(30, 12), -2);
    Check.due("never there", z.forget(3), 0);
    Check.says("what was told stays: numbers, changes, law, shelves, bodies");
    Check.due("BELIEVES of 1", z.of(1, 5), 1);
    Check.due("changes", z.count(3), 2);
    keepsNoMore();
  }

  private static void keepsNoMore() {
    LeftAsFound x = Check.taker(1);
    x.image();
    x.mend(0, 0, 60);
    x.feed('7');
    x.row(0, 0, 1);
    x.body(3);
    x.act(0, 1, 1);
    x.back();
    Check.due("OUGHT", x.of(0, 0), 60);
    Check.due("the tape", x.count(2), 1);
    Check.due("changes", x.count(3), 1);
    Check.due("bodies", x.count(4), 1);
    Check.due("trace", x.count(5), 4);
    Check.due("a row", x.level(0, 0, 1), 49);
    Check.due("law", x.law(), 1);
    x.back();
    Check.due("the law", x.level(0, 0, 1), 57);
    Check.due("undo", x.undo(), 0);
    x.back();
    Check.due("redo", x.redo(), 0);
    Check.says("what the one ahead believed");
    LeftAsFound y = Check.with(2);
    y.mend(0, 5, 3);
    y.mend(0, 4, 0);
    y.mend(0, 3, 20);
    y.mend(0, 0, 60);
    y.image();
    y.night(1);
    y.row(0, 0, 1);
    Check.due("it believed 50", y.level(0, 0, 1), 50);
    y.back();
    Check.due("there was none", y.level(0, 0, 1), 60);
    y.night(1);
    y.image();
    y.mend(1, 5, 2);
    y.night(1);
    Check.due("it believed 60", y.level(0, 0, 1), 60);
    y.back();
    Check.due("it believed 50", y.level(0, 0, 1), 50);
    Check.due("the latest image", y.back(), 1);
  }

  private static void changes() {
    Check.says("40 at most are kept");
    for (int made : new int[] {0, 1, 39, 40, 41, 80, 81}) {
      LeftAsFound x = new LeftAsFound();
      for (int i = 1; i <= made; i++) Check.due("mend", x.mend(0, 7, 100 + i), i == 1 ? 20 : 99 + i);
      int kept = Math.min(made, 40);
      Check.due("count", x.count(3), kept);
      Check.due("none undone yet", x.redo(), -5);
      for (int left = kept - 1; left >= 0; left--) {
        Check.due("undo", x.undo(), left);
        Check.due("count", x.count(3), left);
        int number = made - kept + left;
        Check.due("PRICE", x.of(0, 7), number == 0 ? 20 : 100 + number);
      }
      Check.due("none", x.undo(), -5);
      Check.due("PRICE", x.of(0, 7), made - kept == 0 ? 20 : 100 + made - kept);
      for (int left = kept - 1; left >= 0; left--) {
        Check.due("redo", x.redo(), left);
        Check.due("PRICE", x.of(0, 7), 100 + made - left);
      }
      Check.due("none", x.redo(), -5);
      Check.due("count", x.count(3), kept);
    }
    Check.says("40 at most are kept, of whatever numbers");
    LeftAsFound z = Check.with(7);
    for (int i = 0; i < 70; i++) z.mend(i % 7 * 10 + i % 4, i % 2 + 2, 1 + i % 5);
    int kept = z.count(3);
    Check.due("kept", kept, 40);
    int[] told = new int[56];
    for (int i = 0; i < 56; i++) told[i] = z.of(i / 8 * 10 + i % 4, i / 4 % 2 + 2);
    for (int left = 39; left >= 0; left--) Check.due("undo", z.undo(), left);
    // the first 30 stay
    for (int i = 0; i < 7; i++) {
      for (int thing = 0; thing < 4; thing++) {
        for (int what = 2; what < 4; what++) {
          int last = 0;
          for (int k = 0; k < 30; k++) if (k % 7 == i && k % 4 == thing && k % 2 + 2 == what) last = 1 + k % 5;
          Check.due("number " + what + " of " + i + thing, z.of(10 * i + thing, what), last);
        }
      }
    }
    for (int left = 39; left >= 0; left--) Check.due("redo", z.redo(), left);
    for (int i = 0; i < 56; i++) Check.due("as it was", z.of(i / 8 * 10 + i % 4, i / 4 % 2 + 2), told[i]);
    Check.says("DONE AGAIN (as long as no other came behind)");
    LeftAsFound x = new LeftAsFound();
    for (int i = 1; i <= 40; i++) x.mend(0, 7, 100 + i);
    x.undo();
    x.undo();
    Check.due("refused, so none", x.mend(0, 7, 1000), -1);
    Check.due("the same, so none", x.mend(0, 7, 138), 138);
    Check.due("done again", x.redo(), 1);
    Check.due("another", x.mend(0, 7, 1), 139);
    Check.due("no more", x.redo(), -5);
    Check.due("count", x.count(3), 40);
    Check.due("undo", x.undo(), 39);
    Check.due("PRICE", x.of(0, 7), 139);
    Check.due("undo", x.undo(), 38);
    Check.due("PRICE", x.of(0, 7), 138);
    Check.due("redo", x.redo(), 1);
    Check.due("redo", x.redo(), 0);
    Check.due("PRICE", x.of(0, 7), 1);
    Check.due("another: the oldest is lost", x.mend(0, 7, 2), 1);
    for (int left = 39; left >= 0; left--) x.undo();
    Check.due("PRICE", x.of(0, 7), 101);
    whatIsOne();
  }

  private static void whatIsOne() {
    Check.says("CHANGES (OUGHT, WORTH of THINGS; all numbers of GUESTS; RULE, PRICE, HONEST; telling the same number is none)");
    int[] tops = {99, 9, 9, 20, 50, 3, 50, 999, 12};
    for (int what = 0; what < 9; what++) {
      LeftAsFound x = Check.with(2);
      int number = what < 2 ? 3 : what < 4 ? 13 : what < 6 ? 1 : 0;
      int was = x.of(number, what), other = was == tops[what] ? 0 : tops[what];
      Check.due("the same", x.mend(number, what, was), was);
      Check.due("is none", x.count(3), 0);
      Check.due("another", x.mend(number, what, other), was);
      Check.due("is one", x.count(3), 1);
      Check.due("undo", x.undo(), 0);
      Check.due("what it was", x.of(number, what), was);
      Check.due("redo", x.redo(), 0);
      Check.due("again", x.of(number, what), other);
      Check.due("back to what it was", x.mend(number, what, was), other);
      Check.due("is one, too", x.count(3), 2);
      for (int beside = 0; beside < 4 && what < 4; beside++) {
        int next = what < 2 ? beside : beside < 3 ? 10 + beside : 3;
        if (next != number) Check.due("the others stay", x.of(next, what), what == 0 ? 50 : what == 1 ? 1 : 0);
      }
    }
    Check.says("deeds are none");
    LeftAsFound x = Check.with(1);
    x.mend(0, 0, 60);
    x.undo();
    x.night(0);
    x.set(0, 3);
    x.forget(0);
    x.image();
    x.back();
    x.guest(1, 1);
    Check.tell(x, 0, 1, 1, 1);
    x.guests(0, 0, 1);
    Check.enact(x, "f");
    x.body(0);
    x.keep(1, 0);
    x.act(0, 0, 0);
    Check.due("none may be undone", x.undo(), -5);
    Check.due("none came behind", x.redo(), 0);
    Check.due("OUGHT", x.of(0, 0), 60);
    Check.due("LEVEL is no change", x.undo(), 0);
    Check.due("LEVEL", x.of(0, 10), 3);
    Check.says("the latest first");
    LeftAsFound y = Check.with(1);
    y.mend(0, 0, 60);
    y.mend(0, 1, 2);
    y.mend(0, 0, 70);
    y.undo();
    Check.due("OUGHT", y.of(0, 0), 60);
    Check.due("WORTH", y.of(0, 1), 2);
    y.undo();
    Check.due("OUGHT", y.of(0, 0), 60);
    Check.due("WORTH", y.of(0, 1), 1);
    y.undo();
    Check.due("OUGHT", y.of(0, 0), 50);
  }

  public static void main(String[] args) {
    guests();
    nights();
    led();
    image();
    changes();
    Check.end("deeds");
  }
}
