import java.util.ArrayList;
import java.util.List;
import java.util.function.Consumer;
import java.util.function.Function;
import java.util.function.Supplier;
import java.util.function.ToLongFunction;

/**
 * "Answers, of several the one named first .. What is answered so changes nothing." Each call is made in a hut like
 * another one where it is not made: if it was refused as is due, both must tell the same of all that there is.
 */
public final class RefusalTest {
  private static Supplier<LeftAsFound> hut;
  private static List<Function<LeftAsFound, List<Long>>> probes;
  private static List<List<Long>> untouched;

  // ---- what there is to tell

  private static void things(LeftAsFound x, List<Long> told) {
    for (int what : new int[] {0, 1, 10, 11}) for (int thing = 0; thing < 4; thing++) told.add((long) x.of(thing, what));
    for (int what : new int[] {2, 3, 12}) {
      for (int g = 0; g < 7; g++) for (int thing = 0; thing < 4; thing++) told.add((long) x.of(10 * g + thing, what));
    }
    for (int what = 4; what < 6; what++) for (int g = 0; g < 7; g++) told.add((long) x.of(g, what));
    for (int what = 6; what < 9; what++) told.add((long) x.of(0, what));
  }

  private static void counts(LeftAsFound x, List<Long> told) {
    for (int what = 0; what < 6; what++) told.add((long) x.count(what));
    for (int what = 0; what < 4; what++) told.add((long) x.led(what));
    for (int i = 0; i < 12; i++) told.add((long) x.trace(i));
  }

  private static List<Long> all(LeftAsFound x) {
    List<Long> told = new ArrayList<>();
    counts(x, told);
    things(x, told);
    for (int shelf = 0; shelf < 6; shelf++) {
      for (int k = 0; k < 8; k++) told.add((long) x.taken(shelf, k));
      for (int i = 0; i < 10; i++) told.add(x.element(shelf, i));
      told.add((long) x.loss(shelf));
      told.add((long) x.put(shelf, 59, 1));
    }
    return told;
  }

  private static List<Long> changes(LeftAsFound x) {
    List<Long> told = new ArrayList<>();
    for (long left = 0; left >= 0; told.add(left)) left = x.redo();
    things(x, told);
    for (long left = 0; left >= 0; told.add(left)) left = x.undo();
    things(x, told);
    return told;
  }

  private static List<Long> image(LeftAsFound x) {
    List<Long> told = new ArrayList<>();
    told.add((long) x.back());
    counts(x, told);
    things(x, told);
    aheadAndLaw(x, told);
    return told;
  }

  /** By a guest who believes what the one ahead did, first by the law in force, then by what is on the tape. */
  private static void aheadAndLaw(LeftAsFound x, List<Long> told) {
    told.add((long) x.guest(1, 0));
    told.add((long) x.mend(0, 5, 3));
    for (int thing = 0; thing < 4; thing++) told.add((long) x.mend(thing, 3, 20));
    x.row(0, 0, 5);
    for (int thing = 0; thing < 4; thing++) for (int k = 0; k < 6; k++) told.add((long) x.level(0, thing, k));
    told.add((long) x.law());
    told.add((long) x.loss(0));
    for (int letter : new int[] {'o', '-', 'f'}) told.add((long) x.feed(letter));
    told.add((long) x.law());
    for (int thing = 0; thing < 4; thing++) told.add((long) x.level(0, thing, 1));
    told.add((long) x.body(0));
  }

  private static List<Long> tape(LeftAsFound x) {
    List<Long> told = new ArrayList<>();
    aheadAndLaw(x, told);
    return told;
  }

  // ---- huts

  private static LeftAsFound newHut() { return new LeftAsFound(); }

  /** Shelf 0 holds stays, 1 shorts, 2 body 1, 3 what was seen, 4 no nights, 5 nothing. */
  private static LeftAsFound usedHut() {
    LeftAsFound x = new LeftAsFound();
    x.guest(2, 3);
    x.guest(1, 5);
    x.mend(10, 3, 8);
    x.mend(1, 5, 1);
    x.mend(0, 0, 55);
    x.mend(2, 1, 4);
    x.mend(0, 7, 33);
    x.undo();
    x.undo();
    for (char c : "f<o?b-t;-t".toCharArray()) x.feed(c);
    x.law();
    x.feed('4');
    x.feed('+');
    x.night(0);
    x.image();
    x.night(1);
    x.set(3, 7);
    int[] stays = {0, 1, 9, 0, 0, 1, 1};
    int[] seen = {-1, 40, -1};
    x.row(0, 0, 7);
    for (int i = 0; i < 7; i++) x.put(0, i, stays[i]);
    x.row(1, 1, 3);
    x.put(1, 2, 300);
    x.body(7);
    x.body(5);
    x.keep(2, 1);
    x.row(3, 0, 3);
    for (int i = 0; i < 3; i++) x.put(3, i, seen[i]);
    x.row(4, 0, 0);
    x.act(1, 3, 9);
    return x;
  }

  private static LeftAsFound fullHut() {
    LeftAsFound x = new LeftAsFound();
    for (int g = 0; g < 7; g++) x.guest(g, g);
    for (int i = 0; i < 120; i++) x.feed(i % 2 == 0 ? 't' : '+');
    for (int i = 0; i < 40; i++) x.mend(0, 7, 100 + i);
    for (int i = 0; i < 50; i++) x.body(i % 8);
    x.image();
    x.row(0, 0, 60);
    x.put(0, 0, 1);
    return x;
  }

  private static void in(Supplier<LeftAsFound> made) {
    hut = made;
    probes = List.of(RefusalTest::all, RefusalTest::changes, RefusalTest::image, RefusalTest::tape);
    untouched = new ArrayList<>();
    for (Function<LeftAsFound, List<Long>> probe : probes) untouched.add(probe.apply(hut.get()));
  }

  private static void changesNothing(String call, Consumer<LeftAsFound> made) {
    for (int i = 0; i < probes.size(); i++) {
      LeftAsFound x = hut.get();
      made.accept(x);
      List<Long> told = probes.get(i).apply(x);
      Check.due(call + " changes nothing; probe " + i, told.equals(untouched.get(i)) ? 0 : 1, 0);
    }
  }

  private static void refused(String call, long due, ToLongFunction<LeftAsFound> made) {
    Check.due(call, made.applyAsLong(hut.get()), due);
    changesNothing(call, made::applyAsLong);
  }

  // ---- the calls

  private static void inANewHut() {
    Check.says("What is answered so changes nothing: in a new hut");
    in(RefusalTest::newHut);
    refused("night", -1, x -> x.night(0));
    refused("forget", -1, x -> x.forget(0));
    refused("back", -5, x -> x.back());
    refused("undo", -5, x -> x.undo());
    refused("redo", -5, x -> x.redo());
    refused("trace", -1, x -> x.trace(0));
    refused("keep", -1, x -> x.keep(0, 0));
    refused("put", -11, x -> x.put(0, 0, 1));
    refused("element", Check.NONE, x -> x.element(0, 0));
    refused("shift", -11, x -> x.shift(0, 0, 1, 0, 0));
    refused("taken", -11, x -> x.taken(0, 0));
    refused("guests", 0, x -> x.guests(0, 0, 7));
    refused("mend", -1, x -> x.mend(0, 2, 1));
    refused("of", -1, x -> x.of(0, 12));
    refused("often", -1, x -> x.often(0, 0, 0));
    refused("law", -100, x -> x.law());
    refused("act", 0, x -> x.act(0, 0, 0));
    refused("drawn", 0, x -> x.drawn(1, 60, 0));
  }

  private static void inAUsedHut() {
    Check.says("What is answered so changes nothing: in a used hut");
    in(RefusalTest::usedHut);
    refused("guest", -1, x -> x.guest(10, 0));
    refused("guest", -1, x -> x.guest(0, 51));
    refused("guest", -1, x -> x.guest(-1, 0));
    refused("guest", -1, x -> x.guest(0, -1));
    refused("guests", -1, x -> x.guests(6, 0, 1));
    refused("guests", -1, x -> x.guests(4, 0, 8));
    refused("guests", -12, x -> x.guests(1, 0, 1));
    refused("guests", -12, x -> x.guests(2, 0, 1));
    refused("guests, the row ends", 0, x -> x.guests(4, 0, 1));
    refused("guests, missing", 0, x -> x.guests(5, 0, 1));
    refused("guests, not as it may be", 0, x -> x.guests(3, 0, 1));
    int[] tops = {99, 9, 9, 20, 50, 3, 50, 999, 12};
    for (int what = 0; what < 9; what++) {
      int w = what;
      refused("mend", -1, x -> x.mend(0, w, -1));
      refused("mend", -1, x -> x.mend(0, w, tops[w] + 1));
      refused("mend", -1, x -> x.mend(-1, w, 1));
      refused("mend", -1, x -> x.mend(w < 2 ? 4 : w < 4 ? 20 : w < 6 ? 2 : 1, w, 1));
      changesNothing("telling the same", x -> x.mend(0, w, x.of(0, w)));
    }
    refused("mend", -1, x -> x.mend(0, 9, 1));
    refused("mend", -1, x -> x.mend(0, 10, 1));
    refused("mend", -1, x -> x.mend(0, -1, 1));
    refused("feed", -1, x -> x.feed(256));
    refused("feed", -1, x -> x.feed(-1));
    refused("night", -1, x -> x.night(2));
    refused("night", -1, x -> x.night(-1));
    refused("set", -1, x -> x.set(0, 100));
    refused("set", -1, x -> x.set(0, -1));
    refused("set", -1, x -> x.set(4, 1));
    refused("set", -1, x -> x.set(-1, 1));
    refused("forget", -1, x -> x.forget(2));
    refused("forget", -1, x -> x.forget(-1));
    refused("led", -1, x -> x.led(4));
    refused("body", -1, x -> x.body(8));
    refused("body", -1, x -> x.body(-1));
    refused("trace", -1, x -> x.trace(10));
    refused("count", -1, x -> x.count(6));
    onItsShelves();
    inThought();
  }

  private static void onItsShelves() {
    refused("keep", -1, x -> x.keep(0, 2));
    refused("keep", -1, x -> x.keep(0, -2));
    refused("keep", -1, x -> x.keep(6, 0));
    refused("row", -1, x -> x.row(0, 5, 1));
    refused("row", -1, x -> x.row(0, 0, 61));
    refused("row", -14, x -> x.row(0, 0, -1));
    refused("row", -14, x -> x.row(2, 0, -1));
    refused("row", -14, x -> x.row(5, 0, -1));
    refused("row", -1, x -> x.row(6, 0, 1));
    refused("put", -13, x -> x.put(0, 7, 1));
    refused("put", -13, x -> x.put(0, -1, 1));
    refused("put", -13, x -> x.put(4, 0, 1));
    refused("put", -12, x -> x.put(2, 0, 1));
    refused("put", -11, x -> x.put(5, 0, 1));
    refused("put", -1, x -> x.put(6, 0, 1));
    refused("shift", -13, x -> x.shift(0, 0, 3, 0, 4));
    refused("shift", -13, x -> x.shift(0, 5, 3, 0, 3));
    refused("shift", -13, x -> x.shift(0, 1, 0, 2, 6));
    refused("shift", -13, x -> x.shift(0, 0, 3, 0, -1));
    refused("shift", -12, x -> x.shift(0, 0, 1, 0, 1));
    refused("shift", -12, x -> x.shift(0, 0, 2, 0, 1));
    refused("shift", -11, x -> x.shift(0, 0, 5, 0, 1));
    refused("shift", -1, x -> x.shift(0, 0, 6, 0, 1));
    refused("taken", -12, x -> x.taken(2, 1));
    refused("taken", -12, x -> x.taken(0, 0));
    refused("taken", -11, x -> x.taken(5, 0));
    refused("element", Check.NONE, x -> x.element(0, 7));
    changesNothing("shift of none", x -> x.shift(0, 7, 0, 0, 0));
    changesNothing("shift to where it is", x -> x.shift(0, 0, 0, 0, 7));
  }

  private static void inThought() {
    Check.says("in thought, all as it is");
    for (int shelf = -1; shelf < 7; shelf++) {
      int s = shelf;
      changesNothing("level", x -> x.level(s, 0, 7));
      changesNothing("lowest", x -> x.lowest(s, 0));
      changesNothing("below", x -> x.below(s, 0, 40));
      changesNothing("loss", x -> x.loss(s));
      changesNothing("rest", x -> x.rest(s, 0));
      changesNothing("rest", x -> x.rest(s, 2));
      changesNothing("often", x -> x.often(s, 10, 40));
      changesNothing("warden", x -> x.warden(s, 2));
      changesNothing("spoils", x -> x.spoils(s, 1));
      changesNothing("order", x -> x.order(s, -1));
      changesNothing("order", x -> x.order(s, 4));
      changesNothing("tin", x -> x.tin(s, 0));
      changesNothing("who", x -> x.who(s, 0, 2));
      changesNothing("ways", x -> x.ways(s, 0));
      changesNothing("judge", x -> x.judge(10 * s + 3, 0));
      changesNothing("since", x -> x.since(s, 0, 5));
      changesNothing("element", x -> x.element(s, 0));
      changesNothing("taken", x -> x.taken(s, 0));
      changesNothing("of", x -> x.of(s, 12));
      changesNothing("count", x -> x.count(s));
      changesNothing("led", x -> x.led(s));
      changesNothing("trace", x -> x.trace(s));
    }
    changesNothing("drawn", x -> x.drawn(5, 60, 0));
    changesNothing("drawn", x -> x.drawn(5, 60, 1));
    changesNothing("undo and redo", x -> { x.undo(); x.redo(); });
    changesNothing("redo and undo", x -> { x.redo(); x.undo(); });
  }

  private static void inAFullHut() {
    Check.says("What is answered so changes nothing: in a full hut");
    in(RefusalTest::fullHut);
    refused("guest", -3, x -> x.guest(1, 1));
    refused("BAD ahead of FULL", -1, x -> x.guest(10, 1));
    refused("guests", 0, x -> x.guests(0, 0, 7));
    refused("feed", -3, x -> x.feed('f'));
    refused("BAD ahead of FULL", -1, x -> x.feed(256));
    refused("body", -3, x -> x.body(0));
    refused("BAD ahead of FULL", -1, x -> x.body(8));
    refused("redo", -5, x -> x.redo());
    refused("night", -1, x -> x.night(7));
    refused("mend", -1, x -> x.mend(70, 2, 1));
    refused("mend", -1, x -> x.mend(0, 7, 1000));
    refused("keep", -1, x -> x.keep(0, 50));
    refused("row", -1, x -> x.row(0, 0, 61));
    refused("put", -13, x -> x.put(0, 60, 1));
  }

  private static void namedFirst() {
    Check.says("Answers, of several the one named first");
    in(RefusalTest::usedHut);
    for (int shelf : new int[] {1, 2, 5}) {
      int s = shelf;
      // whatever the shelf holds, what is not as said is BAD
      refused("level, thing", -1, x -> x.level(s, 4, 0));
      refused("level, k", -1, x -> x.level(s, 0, -1));
      refused("level, k", -1, x -> x.level(s, 0, 31));
      refused("lowest", -1, x -> x.lowest(s, 4));
      refused("below", -1, x -> x.below(s, 0, 100));
      refused("rest", -1, x -> x.rest(s, 6));
      refused("often, gt", -1, x -> x.often(s, 20, 0));
      refused("often, x", -1, x -> x.often(s, 0, 100));
      refused("spoils", -1, x -> x.spoils(s, 2));
      refused("order", -1, x -> x.order(s, -2));
      refused("warden", Check.VOID, x -> x.warden(s, 3));
      refused("tin", Check.NONE, x -> x.tin(s, 2));
      refused("who, k", -1, x -> x.who(s, 0, 6));
      refused("who, thing", -1, x -> x.who(s, 4, 0));
      refused("ways", -1, x -> x.ways(s, 4));
      refused("judge", -1, x -> x.judge(10 * s + 6, 0));
      refused("judge", -1, x -> x.judge(10 * s, 4));
      refused("since", -1, x -> x.since(s, 0, 100));
      refused("taken", -1, x -> x.taken(s, 8));
      refused("guests", -1, x -> x.guests(s, 0, 0));
      refused("shift", -1, x -> x.shift(s, -1, 6, 0, 1));
      refused("keep", -1, x -> x.keep(s, 2));
      // and ahead of NOT comes that there is no row of bytes
      int due = s == 5 ? -11 : -12;
      refused("order ahead of NOT", due, x -> x.order(s, 5));
      refused("spoils ahead of NOT", due, x -> x.spoils(s, 0));
      refused("below ahead of NOT", due, x -> x.below(s, 0, 0));
      refused("since ahead of NOT", due, x -> x.since(s, 0, 0));
      refused("often ahead of NOT", due, x -> x.often(s, 0, 99));
      refused("level ahead of BAD by the row", due, x -> x.level(s, 0, 30));
      refused("who ahead of BAD by the row", due, x -> x.who(s, 0, 5));
    }
    refused("row: BAD ahead of -14", -1, x -> x.row(0, 5, -1));
    refused("row: BAD ahead of -14", -1, x -> x.row(6, 0, -1));
    refused("put: -11 ahead of -13", -11, x -> x.put(5, -1, 1));
    refused("put: -12 ahead of -13", -12, x -> x.put(2, -1, 1));
    refused("shift: -11 ahead of -12", -11, x -> x.shift(2, 0, 5, 0, 1));
    refused("shift: -11 ahead of -12", -11, x -> x.shift(5, 0, 2, 0, 1));
    refused("shift: -12 ahead of -13", -12, x -> x.shift(1, 9, 0, 0, 1));
    refused("shift: -11 ahead of -13", -11, x -> x.shift(5, 9, 0, 0, -1));
    refused("judge: -11 ahead of -12", -11, x -> x.judge(15, 0));
    refused("judge: -11 ahead of -12", -11, x -> x.judge(51, 0));
    refused("judge: -12 ahead of NOT", -12, x -> x.judge(14, 0));
    refused("judge: BAD ahead of -11", -1, x -> x.judge(56, 0));
    refused("spoils: NOT", -2, x -> x.spoils(4, 0));
    refused("order: NOT", -2, x -> x.order(4, 0));
  }

  /** The probes are worth nothing if they don't see what does change something. */
  private static void seen(String call, Consumer<LeftAsFound> made) {
    boolean like = true;
    for (int i = 0; i < probes.size(); i++) {
      LeftAsFound x = hut.get();
      made.accept(x);
      like &= probes.get(i).apply(x).equals(untouched.get(i));
    }
    Check.due(call + " is seen", like ? 0 : 1, 1);
  }

  private static void probesSee() {
    Check.says("each call that changes something is seen");
    in(RefusalTest::usedHut);
    seen("guest", x -> x.guest(1, 1));
    seen("guests", x -> { x.row(5, 0, 3); x.guests(5, 0, 1); x.keep(5, -1); });
    seen("mend", x -> x.mend(13, 3, 1));
    seen("a change undone", x -> { x.mend(13, 3, 1); x.undo(); });
    seen("undo", x -> x.undo());
    seen("redo", x -> x.redo());
    seen("feed", x -> x.feed('f'));
    seen("law", x -> x.law());
    seen("a law", x -> { x.feed('4'); x.law(); x.feed('4'); x.feed('+'); });
    seen("night", x -> x.night(1));
    seen("set", x -> x.set(3, 8));
    seen("forget", x -> x.forget(1));
    seen("image", x -> x.image());
    seen("back", x -> x.back());
    seen("body", x -> x.body(0));
    seen("act", x -> x.act(0, 0, 0));
    seen("no act", x -> x.act(9, 0, 0));
    seen("keep", x -> x.keep(5, 0));
    seen("another body", x -> x.keep(2, 0));
    seen("row", x -> x.row(4, 1, 0));
    seen("put", x -> x.put(0, 2, 8));
    seen("shift", x -> x.shift(0, 0, 0, 1, 3));
  }

  public static void main(String[] args) {
    inANewHut();
    inAUsedHut();
    inAFullHut();
    namedFirst();
    probesSee();
    Check.end("refusals");
  }
}
