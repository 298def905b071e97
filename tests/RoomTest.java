import com.sun.management.ThreadMXBean;
import java.lang.management.ManagementFactory;

/** All calls of a run live in one room: a hut is small, and its calls make no objects, not the dearest ones either. */
public final class RoomTest {
  private static final int MOST_BYTES_OF_A_HUT = 40_000, ROUNDS = 5;

  private static final ThreadMXBean THREADS = (ThreadMXBean) ManagementFactory.getThreadMXBean();
  private static int wrong;
  private static long sum;

  private static long made() {
    return THREADS.getThreadAllocatedBytes(Thread.currentThread().getId());
  }

  private static void atMost(String what, long bytes, long most) {
    if (bytes <= most) return;
    wrong++;
    System.out.println(what + " made " + bytes + " bytes, at most " + most + " are due");
  }

  private static void feed(LeftAsFound x, String text) {
    for (int i = 0; i < text.length(); i++) sum += x.feed(text.charAt(i));
    sum += x.law();
  }

  private static void things(LeftAsFound x) {
    for (int g = 0; g < 8; g++) sum += x.guest(g, g);
    for (int v = 0; v < 50; v++) sum += x.mend(v % 7 * 10 + v % 4, 3, v % 21) + x.of(v, v % 13);
    feed(x, "o-f>s?(b-t)*2;!(f<k)|-f?0-t;7");
    feed(x, "((((((f+");
    sum += x.row(0, 0, 40) + x.row(1, 0, 6) + x.row(2, 0, 60) + x.guests(2, 0, 7);
    for (int i = 0; i < 40; i++) sum += x.put(0, i, i * i % 9);
    for (int i = 0; i < 5; i++) sum += x.put(1, i, -1);
    sum += x.put(1, 5, 40);
  }

  private static void stays(LeftAsFound x) {
    sum += x.level(0, 0, 30) + x.lowest(0, 1) + x.below(0, 2, 10) + x.loss(0) + x.rest(0, 0) + x.often(0, 30, 40)
        + x.warden(0, 2) + x.spoils(0, 1) + x.order(0, -1) + x.tin(0, 0);
    sum += x.who(1, 0, 3) + x.ways(1, 0) + x.judge(1, 0) + x.since(0, 3, 9) + x.drawn(99, 60, 0);
  }

  private static void deeds(LeftAsFound x) {
    sum += x.image() + x.night(3) + x.set(0, 9) + x.night(2) + x.forget(3) + x.led(3) + x.back() + x.undo() + x.redo();
    for (int kind = 0; kind < 8; kind++) sum += x.body(kind) + x.act(kind, 3, kind) + x.trace(2);
    sum += x.keep(3, 5) + x.taken(3, 2) + x.element(0, 3) + x.shift(0, 0, 0, 5, 20) + x.count(5);
    sum += x.loss(3) + x.put(0, 99, 1) + x.mend(99, 99, 99) + x.row(0, 0, -1);
  }

  private static void run(LeftAsFound x) {
    things(x);
    stays(x);
    deeds(x);
  }

  /** Of several rounds the least counts, as the machine itself may make something in one of them. */
  public static void main(String[] args) {
    long hut = Long.MAX_VALUE;
    long calls = Long.MAX_VALUE;
    for (int i = 0; i < ROUNDS; i++) {
      long start = made();
      LeftAsFound x = new LeftAsFound();
      long behind = made();
      run(x);
      long end = made();
      hut = Math.min(hut, behind - start);
      calls = Math.min(calls, end - behind);
    }
    atMost("a new hut", hut, MOST_BYTES_OF_A_HUT);
    atMost("a run of calls", calls, 0);
    System.out.println(wrong == 0 ? "a hut is of " + hut + " bytes, its calls make none (" + sum + ")" : "the room is too small");
    if (wrong != 0) System.exit(1);
  }
}
