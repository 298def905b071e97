import java.lang.reflect.Method;
import java.util.Arrays;
import java.util.Comparator;
import java.util.Random;

/** Runs of calls by fixed seeds on the class and on PlainHut: both must answer alike. */
public final class TwinTest {
  private static final int RUNS = 700, CALLS = 512;
  private static int wrong;
  private final LeftAsFound hut = new LeftAsFound();
  private final PlainHut plain = new PlainHut();
  private final Random random;
  private final int run;
  private int calls;
  private final StringBuilder told = new StringBuilder();

  private TwinTest(int run) {
    this.run = run;
    this.random = new Random(run * 7919L + 17);
  }

  private static final Method[] FACE = face();

  private static Method[] face() {
    Method[] all = Arrays.stream(PlainHut.class.getDeclaredMethods())
        .filter(m -> java.lang.reflect.Modifier.isPublic(m.getModifiers())).toArray(Method[]::new);
    Arrays.sort(all, Comparator.comparing(Method::getName));
    return all;
  }

  private long call(String name, Object... args) throws Exception {
    if (calls >= CALLS) return -999;
    calls++;
    for (Method m : FACE) {
      if (!m.getName().equals(name)) continue;
      long want = ((Number) m.invoke(plain, args)).longValue();
      long got = ((Number) LeftAsFound.class.getMethod(name, m.getParameterTypes()).invoke(hut, args)).longValue();
      told.append(name).append(Arrays.toString(args)).append(" = ").append(got).append('\n');
      if (got != want) {
        wrong++;
        if (wrong <= 3) System.out.println(told);
        System.out.println("run " + run + ": " + name + Arrays.toString(args) + " answered " + got + ", due is " + want);
      }
      return want;
    }
    throw new IllegalStateException(name);
  }

  private int any(int n) { return random.nextInt(n); }
  private boolean once(int n) { return random.nextInt(n) == 0; }

  /** Mostly 0 .. top, now and then just outside, or far. */
  private int near(int top) {
    if (once(12)) return new int[] {-1, top + 1, -2, Integer.MAX_VALUE, Integer.MIN_VALUE, top + 9}[any(6)];
    return any(top + 1);
  }

  private String expression(int depth) {
    String names = "fotbsk";
    StringBuilder s = new StringBuilder();
    int parts = 1 + any(3);
    for (int i = 0; i < parts; i++) {
      if (i > 0) s.append("|&<=>+-*/%+-*".charAt(any(13)));
      int sort = any(depth > 5 ? 2 : 5);
      if (sort == 0) s.append(any(once(9) ? 10000 : 30));
      else if (sort == 1 || sort == 4) s.append(names.charAt(any(6)));
      else if (sort == 2) s.append('(').append(expression(depth + 1)).append(')');
      else s.append("!-".charAt(any(2))).append(names.charAt(any(6)));
    }
    return s.toString();
  }

  private String text() {
    if (once(3)) return new String[] {"o-f>s?b-t;0-t/2", "b-t", "f>o?-t;b", "k=0?b-t;k=1?-t;o-f", "(o-f)/2-t", "9999*9999*99/f",
        "!f|!o?9;-9", "f%7-3", "-t+b*(f<o)", "o-f<s&k?1;o-f=s|k?2;-1"}[any(10)];
    StringBuilder s = new StringBuilder(expression(0));
    for (int i = 0; i < 2; i++) {
      if (once(2)) s.append('?').append(expression(0));
      if (once(3)) s.append(';').append(expression(0));
    }
    if (once(4)) {
      int at = any(s.length());
      if (once(2)) s.deleteCharAt(at);
      else s.insert(at, "()!-fotbsk0123|&<=>+*/%;? x".charAt(any(27)));
    }
    return s.toString();
  }

  private void tellLaw() throws Exception {
    String s = text();
    for (int i = 0; i < s.length() && i < 125; i++) call("feed", (int) s.charAt(i));
    call("law");
  }

  private void tellStays(int shelf) throws Exception {
    int n = once(6) ? any(61) : any(10);
    call("row", shelf, 0, n);
    int guests = plain.count(0);
    for (int i = 0; i < n && i < 34; i++) if (!once(5)) call("put", shelf, i, (long) (once(8) ? any(256) : any(guests + 2)));
  }

  /** Mostly what nights of some guests would show. */
  private void tellSeen(int shelf, int thing) throws Exception {
    int n = plain.count(0) > 4 ? any(5) : any(7);
    call("row", shelf, 0, n);
    for (int i = 0; i < n; i++) call("put", shelf, i, (long) any(plain.count(0) + 2));
    long[] seen = new long[n];
    for (int i = 0; i < n; i++) seen[i] = call("level", shelf, thing, i + 1);
    for (int i = 0; i < n; i++) call("put", shelf, i, once(3) ? -1L : once(12) ? seen[i] + any(5) - 2 : seen[i]);
    for (int i = 0; i < n; i++) if (once(2)) call("who", shelf, thing, i);
    call("ways", shelf, thing);
    call("judge", 10 * any(6) + shelf, thing);
  }

  private void anyCall() throws Exception {
    Method m = FACE[any(FACE.length)];
    Object[] args = new Object[m.getParameterCount()];
    for (int i = 0; i < args.length; i++) {
      boolean isLong = m.getParameterTypes()[i] == long.class;
      int v = near(new int[] {3, 5, 7, 12, 60, 99}[any(6)]);
      args[i] = isLong ? (Object) (long) v : (Object) v;
    }
    if (m.getName().equals("who") || m.getName().equals("ways")) return;
    call(m.getName(), args);
  }

  private void oneStep() throws Exception {
    int thing = near(3), shelf = near(5), guest = near(Math.max(0, plain.count(0) - 1));
    int gt = guest < 0 || guest > 99 ? guest : guest * 10 + any(once(9) ? 10 : 4);
    switch (any(32)) {
      case 0: case 1: case 2: call("mend", gt, 2 + any(2), near(once(2) ? 9 : 20)); break;
      case 3: case 4: call("mend", guest, 4 + any(2), near(once(2) ? 3 : 50)); break;
      case 5: call("mend", thing, any(2), near(once(2) ? 9 : 99)); break;
      case 6: call("mend", 0, 6 + any(3), near(new int[] {12, 50, 999}[any(3)])); break;
      case 7: call("undo"); break;
      case 8: call(once(2) ? "undo" : "redo"); break;
      case 9: case 10: case 11: call("night", guest); break;
      case 12: call("set", thing, near(99)); break;
      case 13: call("forget", guest); break;
      case 14: call(once(2) ? "image" : "back"); break;
      case 15: call("led", near(3)); break;
      case 16: tellStays(any(6)); break;
      case 17: tellSeen(any(6), any(4)); break;
      case 18: call("rest", shelf, near(5)); break;
      case 19: call("often", shelf, gt, near(99)); break;
      case 20: call("warden", shelf, near(2)); break;
      case 21: call("spoils", shelf, near(1)); break;
      case 22: call("order", shelf, near(5) - 1); break;
      case 23: call("tin", shelf, near(1)); break;
      case 24: call("drawn", random.nextInt(), near(60), near(1)); break;
      case 25: call("judge", any(6) * 10 + any(6), thing); call("since", shelf, thing, near(99)); break;
      case 26: call("level", shelf, thing, near(30)); call("lowest", shelf, thing); break;
      case 27: call("below", shelf, thing, near(99)); call("loss", shelf); break;
      case 28: call("of", gt, near(12)); call("of", guest, near(12)); break;
      case 29: acts(); break;
      case 30: rows(); break;
      default: anyCall();
    }
  }

  private void acts() throws Exception {
    call("body", near(7));
    call("act", any(plain.count(4) + 1), near(3), once(2) ? any(100) : random.nextInt());
    for (int i = 0; i < 3; i++) call("trace", near(10));
    call("keep", any(6), near(plain.count(4)) - 1);
    call("taken", any(6), near(7));
    call("count", near(5));
  }

  private void rows() throws Exception {
    int shelf = any(6), other = any(6), sort = any(5);
    call("row", shelf, sort, near(60));
    if (once(2)) call("row", other, once(4) ? any(5) : sort, any(20));
    for (int i = 0; i < 4; i++) call("put", shelf, near(20), random.nextLong() >> any(64));
    call("shift", shelf, near(8), other, near(8), near(8));
    for (int i = 0; i < 4; i++) call("element", once(2) ? shelf : other, near(20));
    call("guests", any(6), near(8), near(7));
  }

  private void go() throws Exception {
    int guests = any(once(3) ? 8 : 4);
    for (int i = 0; i < guests; i++) {
      call("guest", any(once(2) ? 10 : 4), any(once(2) ? 51 : 6));
      for (int thing = 0; thing < 4; thing++) if (!once(3)) call("mend", i * 10 + thing, 3, any(21));
      call("mend", i, 5, any(4));
    }
    if (once(2)) tellLaw();
    for (int shelf = 0; shelf < 3; shelf++) tellStays(shelf);
    while (calls < CALLS) {
      oneStep();
      if (once(60)) tellLaw();
    }
  }

  public static void main(String[] args) throws Exception {
    for (int run = 0; run < RUNS && wrong < 20; run++) new TwinTest(run).go();
    System.out.println(wrong == 0 ? "the twins answer alike" : wrong + " answers are not alike");
    if (wrong != 0) System.exit(1);
  }
}
