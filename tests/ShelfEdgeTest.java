/** The edges of promises 31 to 40: bodies, acts, the trace, shelves and their rows, counts. */
public final class ShelfEdgeTest {
  private static final int[] ABOVE = {-1, 0, 0, 2, 1, 3, 0, 6};
  private static final long[] NUMBERS = {0, 1, -1, 127, 128, -128, -129, 255, 256, 32767, 32768, -32768, -32769, 65535, 65536,
      Integer.MAX_VALUE, Integer.MIN_VALUE, Integer.MAX_VALUE + 1L, Integer.MIN_VALUE - 1L, 1L << 32, 1L << 63, Long.MAX_VALUE, 1L << 40};

  private static void bodies() {
    Check.says("BODIES 0 .. 49 are kept; A BODY of a KIND (0 .. 7) is kept: its number. BAD, FULL");
    Check.range("body", kind -> new LeftAsFound().body(kind), 0, 7, -1);
    LeftAsFound x = new LeftAsFound();
    for (int n = 0; n < 50; n++) {
      Check.due("refused", x.body(8), -1);
      Check.due("body", x.body(n % 8), n);
      Check.due("count", x.count(4), n + 1);
    }
    for (int kind = 0; kind < 8; kind++) Check.due("the 51st", x.body(kind), -3);
    Check.due("BAD first", x.body(8), -1);
    Check.due("BAD first", x.body(-1), -1);
    Check.due("count", x.count(4), 50);
    for (int n = 0; n < 50; n++) Check.due("all are there", x.act(n, 2, 6), sees(n % 8, n, 6));
    Check.due("the last: FOUND", x.act(49, 0, 10), 62);
    Check.due("none", x.act(50, 0, 10), 0);
    Check.says("no such BODY, ACT: 0, and no TRACE then");
    for (int body : new int[] {-1, 50, Check.MIN, Check.MAX}) {
      x.act(0, 1, 1);
      Check.due("body " + body, x.act(body, 0, 1), 0);
      Check.due("no trace", x.count(5), 0);
      Check.due("no trace", x.trace(0), -1);
    }
    for (int act : new int[] {-1, 4, Check.MIN, Check.MAX}) {
      x.act(0, 1, 1);
      Check.due("act " + act, x.act(0, act, 1), 0);
      Check.due("no trace", x.count(5), 0);
      Check.due("no trace", x.trace(0), -1);
    }
    LeftAsFound none = new LeftAsFound();
    for (int act = 0; act < 4; act++) Check.due("no body yet", none.act(0, act, 5), 0);
  }

  /** The acts as the document tells them, by kinds; n its number. */
  private static int comes(int kind, int n, int x) {
    switch (kind) {
      case 1: case 4: return x + n + 3;
      case 6: return (x + n) * 2;
      case 7: return (x + n) * 2 - 1;
      default: return x + n;
    }
  }
  private static int sees(int kind, int n, int x) {
    return kind == 3 ? (x ^ n) * 3 : kind == 5 ? (x ^ n) * 3 - (2 + n) : x ^ n;
  }
  private static int leaves(int kind, int n, int x) {
    switch (kind) {
      case 2: return -(comes(2, n, x) * 2);
      case 3: case 5: return -(comes(kind, n, x + 1) * 2);
      case 7: return comes(7, n, x) * 2 + (2 ^ n);
      default: return comes(kind, n, x) * 2;
    }
  }
  private static int tells(int kind, int n, int x) {
    int above = leaves(kind, n, x) - sees(kind, n, 1);
    return kind == 4 ? above ^ 5 : kind == 5 ? above + 1 : above;
  }

  private static void acts() {
    Check.says("ACTS with x (an int that wraps)");
    int[] numbers = {0, 1, -1, 2, 100, Check.MAX, Check.MAX - 1, Check.MIN, Check.MIN + 1, 1 << 30, -(1 << 30), (1 << 30) - 8};
    for (int first = 0; first < 2; first++) {
      for (int v : numbers) {
        LeftAsFound x = new LeftAsFound();
        for (int i = 0; i < 42 * first; i++) x.body(0);
        for (int kind = 0; kind < 8; kind++) {
          int n = x.body(kind);
          String of = " of kind " + kind + ", number " + n + ", with " + v;
          Check.due("comes" + of, x.act(n, 0, v), comes(kind, n, v));
          Check.due("leaves" + of, x.act(n, 1, v), leaves(kind, n, v));
          Check.due("sees" + of, x.act(n, 2, v), sees(kind, n, v));
          Check.due("tells" + of, x.act(n, 3, v), tells(kind, n, v));
        }
      }
    }
    LeftAsFound x = new LeftAsFound();
    x.body(0);
    x.body(0);
    Check.due("MAX and 1", x.act(1, 0, Check.MAX), Check.MIN);
    Check.due("MIN by 2", x.act(0, 1, Check.MIN), 0);
    Check.due("of 1 << 30", x.act(0, 1, 1 << 30), Check.MIN);
    x.body(2);
    Check.due("- of MIN is MIN", x.act(2, 1, (1 << 30) - 2), Check.MIN);
  }

  private static void trace() {
    Check.says("numbers of the bodies that ran in the latest act(), as they began; the first 24 are kept");
    LeftAsFound x = new LeftAsFound();
    for (int i : new int[] {-1, 0, 1, 23, 24, Check.MIN, Check.MAX}) Check.due("none yet", x.trace(i), -1);
    x.body(5);
    x.act(0, 3, 1);
    int[] longest = {61, 2, 41, 30, 10, 1, 60, 40, 11, 1};
    for (int again = 0; again < 2; again++) {
      for (int i = 0; i < 10; i++) Check.due("trace " + i, x.trace(i), longest[i]);
      for (int i : new int[] {-1, 10, 11, 23, 24, 25, Check.MIN, Check.MAX}) Check.due("trace " + i, x.trace(i), -1);
      Check.due("count", x.count(5), 10);
    }
    x.body(7);
    x.act(1, 3, 1);
    int[] mouse = {2, 80, 10, 81, 70, 1, 11, 11};
    for (int i = 0; i < 8; i++) Check.due("trace " + i, x.trace(i), mouse[i]);
    x.act(0, 0, 1);
    Check.due("the latest alone", x.trace(0), 1);
    Check.due("the latest alone", x.trace(1), -1);
    Check.due("count", x.count(5), 1);
    x.body(0);
    x.keep(0, 0);
    x.taken(0, 5);
    Check.due("other calls leave it", x.count(5), 1);
  }

  private static void keep() {
    Check.says("A SHELF holds nothing (body -1), or a BODY: 1. BAD");
    Check.range("keep(shelf, ..)", shelf -> new LeftAsFound().keep(shelf, -1), 0, 5, -1);
    Check.range("keep(.., body)", body -> {
      LeftAsFound x = new LeftAsFound();
      for (int i = 0; i < 50; i++) x.body(0);
      return x.keep(0, body);
    }, -1, 49, -1);
    Check.range("keep(.., body)", body -> new LeftAsFound().keep(0, body), -1, -1, -1);
    LeftAsFound x = new LeftAsFound();
    Check.due("nothing, where nothing is", x.keep(0, -1), 1);
    x.body(6);
    for (int shelf = 0; shelf < 6; shelf++) Check.due("one on all shelves", x.keep(shelf, 0), 1);
    for (int shelf = 0; shelf < 6; shelf++) Check.due("there it is", x.taken(shelf, 6), 6);
    x.keep(3, -1);
    Check.due("gone", x.taken(3, 6), -11);
    Check.due("the others stay", x.taken(4, 6), 6);
    x.row(4, 2, 5);
    x.put(4, 4, 9);
    x.keep(4, 0);
    Check.due("no row", x.element(4, 4), Check.NONE);
    x.row(4, 2, 5);
    Check.due("a new row", x.element(4, 4), 0);
  }

  private static void rows() {
    Check.says("A SHELF holds a ROW: 1. BAD (sort, n above 60); -14");
    Check.range("row(shelf, ..)", shelf -> new LeftAsFound().row(shelf, 0, 1), 0, 5, -1);
    Check.range("row(.., sort, ..)", sort -> new LeftAsFound().row(0, sort, 1), 0, 4, -1);
    for (int n : new int[] {-1, -60, -61, Check.MIN}) {
      Check.due("size " + n, new LeftAsFound().row(0, 0, n), -14);
      Check.due("BAD first", new LeftAsFound().row(6, 0, n), -1);
      Check.due("BAD first", new LeftAsFound().row(-1, 0, n), -1);
      Check.due("BAD first", new LeftAsFound().row(0, 5, n), -1);
      Check.due("BAD first", new LeftAsFound().row(0, -1, n), -1);
    }
    for (int n : new int[] {61, 62, Check.MAX}) Check.due("size " + n, new LeftAsFound().row(0, 0, n), -1);
    Check.says("of 0 .. 60 elements, 0 at first (false)");
    for (int sort = 0; sort < 5; sort++) {
      for (int n : new int[] {60, 59, 1, 0}) {
        LeftAsFound x = new LeftAsFound();
        Check.due("row", x.row(2, sort, n), 1);
        for (int i = 0; i < n; i++) Check.due("0 at first", x.element(2, i), 0);
        for (int i : new int[] {-1, n, 60, Check.MIN, Check.MAX}) {
          Check.due("element " + i, x.element(2, i), Check.NONE);
          Check.due("put " + i, x.put(2, i, 1), -13);
        }
        for (int i = 0; i < n; i++) x.put(2, i, 1);
        x.row(2, sort, 60);
        for (int i = 0; i < 60; i++) Check.due("0 again", x.element(2, i), 0);
      }
    }
    LeftAsFound x = new LeftAsFound();
    x.row(0, 3, 60);
    x.row(1, 3, 60);
    x.put(0, 5, 8);
    Check.due("each its own", x.element(1, 5), 0);
    Check.due("refused", x.row(0, 3, 61), -1);
    Check.due("refused", x.row(0, 3, -1), -14);
    Check.due("it stays", x.element(0, 5), 8);
    Check.due("it stays", x.element(0, 59), 0);
  }

  private static long kept(int sort, long v) {
    return sort == 0 ? (byte) v : sort == 1 ? (short) v : sort == 2 ? (int) v : sort == 3 ? v : v == 0 ? 0 : 1;
  }

  private static void elements() {
    Check.says("what is put in keeps its lowest bits (a boolean: whether it is not 0; 1 or 0)");
    for (int sort = 0; sort < 5; sort++) {
      LeftAsFound x = new LeftAsFound();
      x.row(0, sort, 60);
      for (int i = 0; i < NUMBERS.length; i++) {
        Check.due("put", x.put(0, i, NUMBERS[i]), 1);
        Check.due(NUMBERS[i] + " in sort " + sort, x.element(0, i), kept(sort, NUMBERS[i]));
        Check.due("put at the end", x.put(0, 59, NUMBERS[i]), 1);
        Check.due("at the end", x.element(0, 59), kept(sort, NUMBERS[i]));
      }
      for (int i = 0; i < NUMBERS.length; i++) Check.due("it stays", x.element(0, i), kept(sort, NUMBERS[i]));
    }
    Check.due("a byte of 255", kept(0, 255), -1);
    Check.due("a boolean of 1 << 40", kept(4, 1L << 40), 1);
    Check.says("put: BAD, -11, -12, -13; element: Long.MIN_VALUE: BAD, -11 to -13");
    Check.range("put(shelf, ..)", shelf -> {
      LeftAsFound x = new LeftAsFound();
      x.row(0, 0, 1);
      x.row(5, 0, 1);
      Check.due("element", x.element(shelf, 0), shelf == 0 || shelf == 5 ? 0 : Check.NONE);
      return x.put(shelf, 0, 1);
    }, 0, 5, -1);
    LeftAsFound x = new LeftAsFound();
    x.body(0);
    for (int i : new int[] {0, -1, 60, Check.MIN, Check.MAX}) {
      Check.due("BAD first", x.put(6, i, 0), -1);
      Check.due("nothing", x.put(0, i, 0), -11);
      Check.due("nothing", x.element(0, i), Check.NONE);
      x.keep(1, 0);
      Check.due("a body", x.put(1, i, 0), -12);
      Check.due("a body", x.element(1, i), Check.NONE);
    }
  }

  /** A row of n ints 1, 2, .. on a shelf. */
  private static void count(LeftAsFound x, int shelf, int n) {
    x.row(shelf, 2, n);
    for (int i = 0; i < n; i++) x.put(shelf, i, i + 1);
  }

  private static void shift() {
    Check.says("n elements of a ROW from i on come to another one (or the same) from j on, as they all were before: n");
    for (int i = -1; i <= 5; i++) {
      for (int j = -1; j <= 4; j++) {
        for (int n = -1; n <= 5; n++) {
          LeftAsFound x = new LeftAsFound();
          count(x, 0, 4);
          x.row(1, 2, 3);
          boolean there = i >= 0 && j >= 0 && n >= 0 && i + n <= 4 && j + n <= 3;
          Check.due("shift " + i + ", " + j + ", " + n, x.shift(0, i, 1, j, n), there ? n : -13);
          for (int k = 0; k < 3; k++) Check.due("there", x.element(1, k), there && k >= j && k < j + n ? i + k - j + 1 : 0);
          for (int k = 0; k < 4; k++) Check.due("from there", x.element(0, k), k + 1);
          there = i >= 0 && j >= 0 && n >= 0 && i + n <= 4 && j + n <= 4;
          Check.due("the same", x.shift(0, i, 0, j, n), there ? n : -13);
          for (int k = 0; k < 4; k++) Check.due("as they were", x.element(0, k), there && k >= j && k < j + n ? i + k - j + 1 : k + 1);
        }
      }
    }
    Check.says("-13 a place that is not there");
    LeftAsFound x = new LeftAsFound();
    count(x, 0, 60);
    count(x, 1, 60);
    int[] far = {61, Check.MAX, Check.MAX - 59, Check.MIN, -60, -1};
    for (int v : far) {
      Check.due("i " + v, x.shift(0, v, 1, 0, 1), -13);
      Check.due("j " + v, x.shift(0, 0, 1, v, 1), -13);
      Check.due("n " + v, x.shift(0, 0, 1, 0, v), -13);
      Check.due("i, n " + v, x.shift(0, v, 1, 0, v), -13);
      Check.due("i, n wrap", x.shift(0, v, 1, 0, Check.MAX), -13);
      Check.due("j, n wrap", x.shift(0, 0, 1, v, Check.MAX), -13);
    }
    Check.due("all", x.shift(0, 0, 1, 0, 60), 60);
    Check.due("one too many", x.shift(0, 0, 1, 0, 61), -13);
    Check.due("none, at the end", x.shift(0, 60, 1, 60, 0), 0);
    Check.due("none, behind the end", x.shift(0, 61, 1, 0, 0), -13);
    Check.due("none, behind the end", x.shift(0, 0, 1, 61, 0), -13);
    x.row(2, 2, 0);
    Check.due("none of none", x.shift(2, 0, 2, 0, 0), 0);
    Check.due("one of none", x.shift(2, 0, 2, 0, 1), -13);
    Check.due("one to none", x.shift(0, 0, 2, 0, 1), -13);
    shiftOfOthers();
  }

  private static void shiftOfOthers() {
    Check.says("shift: BAD, -11 (either), -12 (no ROWS, or of unlike sorts), -13");
    LeftAsFound x = new LeftAsFound();
    x.body(0);
    x.keep(1, 0);
    x.row(2, 0, 2);
    x.row(3, 1, 2);
    x.row(4, 0, 2);
    // 0 and 5 nothing, 1 a body, 2 and 4 bytes, 3 shorts
    int[] sort = {-1, 9, 0, 1, 0, -1};
    for (int a = -1; a <= 6; a++) {
      for (int b = -1; b <= 6; b++) {
        boolean bad = a < 0 || b < 0 || a > 5 || b > 5;
        int due = bad ? -1 : sort[a] < 0 || sort[b] < 0 ? -11 : sort[a] == 9 || sort[b] == 9 || sort[a] != sort[b] ? -12 : 0;
        Check.due("shift of " + a + " to " + b, x.shift(a, 0, b, 0, 1), due == 0 ? 1 : due);
        Check.due("a place that is not there, " + a + " to " + b, x.shift(a, 3, b, 0, 1), due == 0 ? -13 : due);
        Check.due("n below 0, " + a + " to " + b, x.shift(a, 0, b, 0, -1), due == 0 ? -13 : due);
      }
    }
    for (int one = 0; one < 5; one++) {
      for (int other = 0; other < 5; other++) {
        x.row(2, one, 2);
        x.row(3, other, 2);
        x.put(2, 0, -7);
        Check.due("sort " + one + " to " + other, x.shift(2, 0, 3, 1, 1), one == other ? 1 : -12);
        Check.due("element", x.element(3, 1), one == other ? kept(one, -7) : 0);
        Check.due("even none of them", x.shift(2, 0, 3, 0, 0), one == other ? 0 : -12);
      }
    }
  }

  private static void taken() {
    Check.says("What a SHELF holds, taken for a BODY of KIND k (0 .. 7), or under it: its KIND. BAD, -11, -12");
    Check.range("taken(shelf, ..)", shelf -> new LeftAsFound().taken(shelf, 0), 0, 5, -1);
    Check.range("taken(.., k)", k -> new LeftAsFound().taken(0, k), 0, 7, -1);
    LeftAsFound x = new LeftAsFound();
    for (int kind = 0; kind < 8; kind++) {
      x.body(kind);
      x.keep(5, kind);
      for (int k = -1; k <= 8; k++) {
        boolean under = false;
        for (int at = kind; at >= 0; at = ABOVE[at]) under |= at == k;
        Check.due(kind + " for " + k, x.taken(5, k), k < 0 || k > 7 ? -1 : under ? kind : -12);
      }
    }
    for (int k = 0; k < 8; k++) Check.due("nothing", x.taken(0, k), -11);
    for (int sort = 0; sort < 5; sort++) {
      x.row(0, sort, 1);
      for (int k = 0; k < 8; k++) Check.due("a row", x.taken(0, k), -12);
      Check.due("BAD first", x.taken(0, 8), -1);
    }
  }

  private static void counts() {
    Check.says("How many: 0 GUESTS .. 5 bodies that ran in the latest act(). BAD");
    Check.range("count", what -> new LeftAsFound().count(what), 0, 5, -1);
    LeftAsFound x = Check.with(7);
    for (int g = 0; g < 6; g++) x.night(g);
    for (int i = 0; i < 120; i++) x.feed(0);
    for (int i = 0; i < 45; i++) x.mend(0, 7, i);
    for (int i = 0; i < 50; i++) x.body(5);
    x.act(49, 3, 0);
    int[] full = {7, 6, 120, 40, 50, 10};
    for (int what = 0; what < 6; what++) Check.due("count " + what, x.count(what), full[what]);
    x.undo();
    x.forget(5);
    x.law();
    x.act(50, 0, 0);
    int[] less = {7, 5, 0, 39, 50, 0};
    for (int what = 0; what < 6; what++) Check.due("count " + what, x.count(what), less[what]);
  }

  public static void main(String[] args) {
    bodies();
    acts();
    trace();
    keep();
    rows();
    elements();
    shift();
    taken();
    counts();
    Check.end("shelves");
  }
}
