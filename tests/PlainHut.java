import java.util.ArrayList;
import java.util.Arrays;
import java.util.HashMap;
import java.util.List;
import java.util.Map;
import java.util.Set;
import java.util.TreeSet;

/**
 * The document once more, as plainly as can be and built unlike the class: whole scenes are copied, rows are
 * written out, a law is taken apart as a text each time, and a fault is found by trying how a text may go on.
 */
public final class PlainHut {
  static final int BAD = -1, NOT = -2, FULL = -3, STATE = -5, VOID = -2000000000;

  /** The ones who refuse: their number is the answer. */
  private static final class Refusal extends RuntimeException {
    private static final long serialVersionUID = 1L;
    final int code;
    Refusal(int code) { super(null, null, false, false); this.code = code; }
  }

  private static final class Guest implements Cloneable {
    int[] takes = new int[4], brings = new int[4];
    int sees, believes;
  }

  private static final class Scene {
    int[] level = {50, 50, 50, 50}, book = {50, 50, 50, 50};
    Map<Integer, int[]> found = new HashMap<>();
    int[] ahead;
    Scene copy() {
      Scene c = new Scene();
      c.level = level.clone(); c.book = book.clone(); c.found = new HashMap<>(found);
      c.ahead = ahead == null ? null : ahead.clone();
      return c;
    }
    String print() {
      StringBuilder s = new StringBuilder(Arrays.toString(level) + Arrays.toString(book));
      for (int g = 0; g < 7; g++) s.append(g).append(Arrays.toString(found.get(g)));
      return s.toString();
    }
  }

  private static final class Kept { Object array; int body = -1; }

  private final int[] ought = {50, 50, 50, 50}, worth = {1, 1, 1, 1};
  private int rule = 50, price = 20, honest = 6;
  private final List<Guest> guests = new ArrayList<>();
  private Scene now = new Scene(), imageScene;
  private List<int[]> log = new ArrayList<>(), imageLog;
  private final StringBuilder tape = new StringBuilder();
  private String lawText;
  private final Map<String, Integer> worked = new HashMap<>();
  private final List<int[]> undone = new ArrayList<>(), done = new ArrayList<>();
  private final List<Stay> bodies = new ArrayList<>();
  private List<Integer> ran = new ArrayList<>();
  private final Kept[] shelves = new Kept[6];

  private static void want(boolean ok) { if (!ok) throw new Refusal(BAD); }
  private static void within(int v, int least, int most) { want(v >= least && v <= most); }

  // ---- guests, things

  public int guest(int takes, int sees) {
    if (takes < 0 || takes > 9 || sees < 0 || sees > 50) return BAD;
    return guests.size() == 7 ? FULL : come(takes, sees, 0);
  }
  private int come(int takes, int sees, int believes) {
    Guest g = new Guest();
    Arrays.fill(g.takes, takes);
    g.sees = sees; g.believes = believes;
    guests.add(g);
    return guests.size() - 1;
  }
  public int guests(int shelf, int i, int n) {
    if (shelf < 0 || shelf > 5 || n < 1 || n > 7) return BAD;
    if (shelves[shelf] == null) return 0;
    if (!(shelves[shelf].array instanceof byte[])) return -12;
    byte[] row = (byte[]) shelves[shelf].array;
    int came = 0;
    try {
      for (int at = i; came < n && guests.size() < 7; at += 3, came++) {
        int a = row[at], b = row[at + 1], c = row[at + 2];
        if (a < 0 || a > 9 || b < 0 || b > 50 || c < 0 || c > 3) break;
        come(a, b, c);
      }
    } catch (ArrayIndexOutOfBoundsException e) { return came; }
    return came;
  }
  private static final int[] TOPS = {99, 9, 9, 20, 50, 3, 50, 999, 12};

  private Integer get(int number, int what) {
    boolean thing = number >= 0 && number < 4, guest = number >= 0 && number < guests.size();
    boolean gt = number >= 0 && number / 10 < guests.size() && number % 10 < 4;
    switch (what) {
      case 0: return thing ? ought[number] : null;
      case 1: return thing ? worth[number] : null;
      case 2: return gt ? guests.get(number / 10).takes[number % 10] : null;
      case 3: return gt ? guests.get(number / 10).brings[number % 10] : null;
      case 4: return guest ? guests.get(number).sees : null;
      case 5: return guest ? guests.get(number).believes : null;
      case 6: return number == 0 ? rule : null;
      case 7: return number == 0 ? price : null;
      case 8: return number == 0 ? honest : null;
      case 10: return thing ? now.level[number] : null;
      case 11: return thing ? now.book[number] : null;
      case 12: if (!gt) return null;
        int[] f = now.found.get(number / 10);
        return f == null ? Integer.valueOf(NOT) : Integer.valueOf(f[number % 10]);
      default: return null;
    }
  }
  private void become(int number, int what, int v) {
    worked.clear();
    switch (what) {
      case 0: ought[number] = v; break;
      case 1: worth[number] = v; break;
      case 2: guests.get(number / 10).takes[number % 10] = v; break;
      case 3: guests.get(number / 10).brings[number % 10] = v; break;
      case 4: guests.get(number).sees = v; break;
      case 5: guests.get(number).believes = v; break;
      case 6: rule = v; break;
      case 7: price = v; break;
      default: honest = v;
    }
  }
  public int mend(int number, int what, int v) {
    if (what < 0 || what > 8 || v < 0 || v > TOPS[what] || get(number, what) == null) return BAD;
    int was = get(number, what);
    if (was == v) return was;
    become(number, what, v);
    done.add(new int[] {number, what, was, v});
    if (done.size() > 40) done.remove(0);
    undone.clear();
    return was;
  }
  public int of(int number, int what) {
    Integer v = get(number, what);
    return v == null ? BAD : v;
  }
  public int feed(int letter) {
    if (letter < 0 || letter > 255) return BAD;
    if (tape.length() == 120) return FULL;
    tape.append((char) letter);
    return tape.length();
  }
  public int law() {
    String text = tape.toString();
    tape.setLength(0);
    if (isText(text)) { lawText = text; worked.clear(); return 1; }
    for (int i = 0; i < text.length(); i++) if (!goesOn(text.substring(0, i + 1))) return -100 - i;
    return -100 - text.length();
  }

  // The grammar as it stands: where may a part end that begins at a place?

  private static boolean goesOn(String begun) {
    String tail = "";
    for (int i = 0; i <= 6; i++, tail += ")") if (isText(begun + tail) || isText(begun + "f" + tail)) return true;
    return false;
  }
  private static boolean isText(String s) {
    for (String line : s.split(";", -1)) {
      String[] parts = line.split("\\?", -1);
      if (parts.length > 2) return false;
      for (String part : parts) {
        if (!ends(part, 0, 0, 0, new HashMap<>()).contains(part.length())) return false;
      }
    }
    return true;
  }
  private static final String[] SIGNS = {"|", "&", "<=>", "+-", "*/%"};

  private static Set<Integer> ends(String s, int level, int open, int at, Map<String, Set<Integer>> known) {
    String key = level + " " + open + " " + at;
    if (known.containsKey(key)) return known.get(key);
    Set<Integer> all = new TreeSet<>();
    if (level == 5) {
      for (int n = 1; n <= 4; n++) if (at + n <= s.length() && s.substring(at, at + n).matches("[0-9]+")) all.add(at + n);
      if (at < s.length() && "fotbsk".indexOf(s.charAt(at)) >= 0) all.add(at + 1);
      if (at < s.length() && open < 6 && "!-".indexOf(s.charAt(at)) >= 0) all.addAll(ends(s, 5, open + 1, at + 1, known));
      if (at < s.length() && open < 6 && s.charAt(at) == '(') {
        for (int e : ends(s, 0, open + 1, at + 1, known)) if (e < s.length() && s.charAt(e) == ')') all.add(e + 1);
      }
    } else {
      Set<Integer> latest = ends(s, level + 1, open, at, known);
      all.addAll(latest);
      for (int i = 0; i < 120 && !latest.isEmpty(); i++) {
        Set<Integer> next = new TreeSet<>();
        for (int e : latest) {
          if (e < s.length() && SIGNS[level].indexOf(s.charAt(e)) >= 0) next.addAll(ends(s, level + 1, open, e + 1, known));
        }
        all.addAll(next);
        latest = level == 2 ? Set.of() : next;
      }
    }
    known.put(key, all);
    return all;
  }

  private static int lawGives(String text, int[] names) {
    for (String line : text.split(";")) {
      String[] parts = line.split("\\?");
      if (parts.length == 1) return value(parts[0], names);
      if (value(parts[0], names) != 0) return value(parts[1], names);
    }
    return 0;
  }
  private static int value(String s, int[] names) {
    for (int level = 0; level < 5; level++) {
      int open = 0;
      for (int i = s.length() - 1; i > 0; i--) {
        char c = s.charAt(i);
        open += c == ')' ? 1 : c == '(' ? -1 : 0;
        boolean behindOne = "0123456789fotbsk)".indexOf(s.charAt(i - 1)) >= 0;
        if (open == 0 && behindOne && SIGNS[level].indexOf(c) >= 0) {
          int a = value(s.substring(0, i), names), b = value(s.substring(i + 1), names);
          switch (c) {
            case '|': return a != 0 | b != 0 ? 1 : 0;
            case '&': return a != 0 & b != 0 ? 1 : 0;
            case '<': return a < b ? 1 : 0;
            case '=': return a == b ? 1 : 0;
            case '>': return a > b ? 1 : 0;
            case '+': return a + b;
            case '-': return a - b;
            case '*': return a * b;
            case '/': return b == 0 ? 0 : (int) ((long) a / b);
            default: return b == 0 ? 0 : (int) ((long) a % b);
          }
        }
      }
    }
    char c = s.charAt(0);
    if (c == '!') return value(s.substring(1), names) == 0 ? 1 : 0;
    if (c == '-') return -value(s.substring(1), names);
    if (c == '(') return value(s.substring(1, s.length() - 1), names);
    return Character.isDigit(c) ? Integer.parseInt(s) : names["fotbsk".indexOf(c)];
  }

  // ---- nights

  private void spend(Scene s, int g) {
    if (g < 0 || g >= guests.size()) return;
    Guest guest = guests.get(g);
    int[] f = s.level.clone(), o = new int[4];
    s.found.putIfAbsent(g, f);
    for (int k = 0; k < 4; k++) {
      if (guest.believes == 0) o[k] = s.found.get(g)[k];
      if (guest.believes == 1) o[k] = s.book[k];
      if (guest.believes == 2 || guest.believes == 3 && s.ahead == null) o[k] = ought[k];
      if (guest.believes == 3 && s.ahead != null) o[k] = s.ahead[k];
      s.level[k] = Math.max(0, Math.min(99, after(guest, g, k, f[k], o[k])));
    }
    s.ahead = o;
    if (guest.believes == 1) s.book = s.level.clone();
  }
  private int after(Guest guest, int g, int k, int f, int o) {
    int t = guest.takes[k], b = guest.brings[k], s = Math.min(rule, guest.sees);
    if (lawText != null) {
      String key = g + " " + k + " " + f + " " + o;
      Integer change = worked.get(key);
      if (change == null) {
        change = Math.max(-20, Math.min(20, lawGives(lawText, new int[] {f, o, t, b, s, k})));
        worked.put(key, change);
      }
      return f + change;
    }
    if (o - f <= s) return f - t;
    int left = f - t;
    return left > o ? left : Math.min(left + b, o);
  }
  private int lack(Scene s, int k) { return Math.max(0, ought[k] - s.level[k]); }
  private int lacks(Scene s) {
    int sum = 0;
    for (int k = 0; k < 4; k++) sum += lack(s, k) * worth[k];
    return sum;
  }

  /** The scenes behind each night, from now on; the first is the scene as it is. */
  private List<Scene> scenes(List<Integer> row) {
    List<Scene> all = new ArrayList<>();
    Scene s = now.copy();
    all.add(s.copy());
    for (int g : row) { spend(s, g); all.add(s.copy()); }
    return all;
  }
  private int lossOf(List<Integer> row) {
    List<Scene> all = scenes(row);
    int sum = 0;
    for (int i = 1; i < all.size(); i++) sum += lacks(all.get(i));
    return sum;
  }
  private byte[] bytes(int shelf) {
    Kept k = shelves[shelf];
    if (k == null) throw new Refusal(-11);
    if (!(k.array instanceof byte[])) throw new Refusal(-12);
    return (byte[]) k.array;
  }
  private List<Integer> stays(int shelf) {
    List<Integer> row = new ArrayList<>();
    for (byte b : bytes(shelf)) if (row.size() < 30) row.add((int) b);
    return row;
  }
  private static List<Integer> again(List<Integer> row, int n) {
    List<Integer> all = new ArrayList<>();
    for (int i = 0; i < n; i++) all.add(row.isEmpty() ? -1 : row.get(i % row.size()));
    return all;
  }

  public int level(int shelf, int thing, int k) {
    try {
      within(shelf, 0, 5); within(thing, 0, 3); within(k, 0, 30);
      List<Scene> all = scenes(stays(shelf));
      want(k < all.size());
      return all.get(k).level[thing];
    } catch (Refusal r) { return r.code; }
  }
  public int lowest(int shelf, int thing) {
    try {
      within(shelf, 0, 5); within(thing, 0, 3);
      List<Scene> all = scenes(stays(shelf));
      int least = all.size() == 1 ? all.get(0).level[thing] : 100;
      for (int i = 1; i < all.size(); i++) least = Math.min(least, all.get(i).level[thing]);
      return least;
    } catch (Refusal r) { return r.code; }
  }
  public int below(int shelf, int thing, int x) {
    try {
      within(shelf, 0, 5); within(thing, 0, 3); within(x, 0, 99);
      List<Scene> all = scenes(stays(shelf));
      for (int i = 1; i < all.size(); i++) if (all.get(i).level[thing] < x) return i - 1;
      return NOT;
    } catch (Refusal r) { return r.code; }
  }
  public int loss(int shelf) {
    try {
      within(shelf, 0, 5);
      return lossOf(stays(shelf));
    } catch (Refusal r) { return r.code; }
  }
  public int rest(int shelf, int what) {
    try {
      within(shelf, 0, 5); within(what, 0, 5);
      List<Integer> row = stays(shelf);
      List<String> prints = new ArrayList<>();
      Scene s = now.copy();
      prints.add(s.print());
      for (int rows = 1; rows <= 200; rows++) {
        for (int g : row) spend(s, g);
        int earlier = prints.indexOf(s.print());
        if (earlier >= 0) return what == 0 ? earlier : what == 1 ? rows - earlier : s.level[what - 2];
        prints.add(s.print());
      }
      return NOT;
    } catch (Refusal r) { return r.code; }
  }
  public int often(int shelf, int gt, int x) {
    try {
      within(shelf, 0, 5); want(get(gt, 2) != null); within(x, 0, 99);
      List<Integer> others = again(stays(shelf), 60);
      int best = NOT;
      for (int m = 1; m <= 12; m++) {
        List<Integer> row = new ArrayList<>();
        for (int i = 0; i < 60; i++) {
          row.add(others.get(i));
          if (i % m == m - 1) row.add(gt / 10);
        }
        boolean holds = true;
        List<Scene> all = scenes(row.subList(0, 60));
        for (int i = 1; i <= 60; i++) holds &= all.get(i).level[gt % 10] >= x;
        if (holds) best = m;
      }
      return best;
    } catch (Refusal r) { return r.code; }
  }
  public int warden(int shelf, int what) {
    try {
      within(shelf, 0, 5); within(what, 0, 2);
      List<Integer> row = again(stays(shelf), 60);
      int best = 0, least = Integer.MAX_VALUE;
      for (int m = 1; m <= 20; m++) {
        Scene s = now.copy();
        int cost = 0;
        for (int i = 1; i <= 60; i++) {
          spend(s, row.get(i - 1));
          cost += lacks(s);
          if (i % m == 0) { s.level = ought.clone(); cost += price; }
        }
        if (cost <= least) { least = cost; best = m; }
      }
      return what == 0 ? best : what == 1 ? least : lossOf(row) - least;
    } catch (Refusal r) { return VOID; }
  }
  public int spoils(int shelf, int what) {
    try {
      within(shelf, 0, 5); within(what, 0, 1);
      List<Integer> row = stays(shelf);
      int best = NOT, least = Integer.MAX_VALUE;
      for (int g = 0; g < guests.size(); g++) {
        if (!row.contains(g)) continue;
        List<Integer> rest = new ArrayList<>();
        for (int other : row) rest.add(other == g ? -1 : other);
        if (lossOf(rest) < least) { least = lossOf(rest); best = g; }
      }
      return best == NOT ? NOT : what == 0 ? best : least;
    } catch (Refusal r) { return r.code; }
  }
  private void orders(List<Integer> begun, int n, List<List<Integer>> all) {
    if (begun.size() == n) { all.add(new ArrayList<>(begun)); return; }
    for (int i = 0; i < n; i++) {
      if (begun.contains(i)) continue;
      begun.add(i);
      orders(begun, n, all);
      begun.remove(begun.size() - 1);
    }
  }
  public int order(int shelf, int k) {
    try {
      within(shelf, 0, 5); want(k >= -1);
      List<Integer> row = stays(shelf);
      int n = Math.min(5, row.size());
      List<List<Integer>> all = new ArrayList<>();
      orders(new ArrayList<>(), n, all);
      List<Integer> best = null;
      int least = Integer.MAX_VALUE;
      for (List<Integer> places : all) {
        List<Integer> mixed = new ArrayList<>(row);
        for (int i = 0; i < n; i++) mixed.set(i, row.get(places.get(i)));
        if (lossOf(mixed) < least) { least = lossOf(mixed); best = places; }
      }
      return k == -1 ? least : k < n ? best.get(k) : NOT;
    } catch (Refusal r) { return r.code; }
  }
  public long tin(int shelf, int part) {
    try {
      within(shelf, 0, 5); within(part, 0, 1);
      List<Scene> all = scenes(stays(shelf));
      int above = 0, under = 12;
      for (int i = 1; i < all.size(); i++) {
        for (int k = 0; k < 4; k++) above += Math.max(0, lack(all.get(i), k) - lack(all.get(i - 1), k)) * worth[k] * honest;
      }
      for (int d = 12; d > 1; d--) if (above % d == 0 && under % d == 0) { above /= d; under /= d; }
      return part == 0 ? above : under;
    } catch (Refusal r) { return Long.MIN_VALUE; }
  }

  // ---- read back, draws

  private void rows(Scene s, byte[] seen, int n, int thing, int[] row, int at, int[] bits) {
    if (at == n) {
      bits[6]++;
      for (int i = 0; i < n; i++) bits[i] |= row[i] == guests.size() ? 128 : 1 << row[i];
      return;
    }
    for (int g = 0; g <= guests.size(); g++) {
      Scene t = s.copy();
      spend(t, g);
      row[at] = g;
      if (seen[at] == -1 || seen[at] == t.level[thing]) rows(t, seen, n, thing, row, at + 1, bits);
    }
  }
  private int[] read(int shelf, int thing) {
    byte[] seen = bytes(shelf);
    int[] bits = new int[7];
    rows(now.copy(), seen, Math.min(6, seen.length), thing, new int[6], 0, bits);
    return bits;
  }
  public int who(int shelf, int thing, int k) {
    try {
      within(shelf, 0, 5); within(thing, 0, 3); within(k, 0, 5);
      want(k < bytes(shelf).length);
      return read(shelf, thing)[k];
    } catch (Refusal r) { return r.code; }
  }
  public int ways(int shelf, int thing) {
    try {
      within(shelf, 0, 5); within(thing, 0, 3);
      return read(shelf, thing)[6];
    } catch (Refusal r) { return r.code; }
  }
  public int judge(int ss, int thing) {
    try {
      within(ss, 0, 55); within(ss % 10, 0, 5); within(thing, 0, 3);
      if (shelves[ss / 10] == null || shelves[ss % 10] == null) return -11;
      byte[] seen = bytes(ss % 10);
      List<Scene> all = scenes(stays(ss / 10));
      for (int i = 0; i < seen.length && i + 1 < all.size(); i++) {
        if (seen[i] != -1 && seen[i] != all.get(i + 1).level[thing]) return i;
      }
      return NOT;
    } catch (Refusal r) { return r.code; }
  }
  public int since(int shelf, int thing, int x) {
    try {
      within(shelf, 0, 5); within(thing, 0, 3); within(x, 0, 99);
      List<Scene> all = scenes(stays(shelf));
      for (int i = all.size() - 1; i > 0; i--) if (lack(all.get(i), thing) <= x) return i - 1;
      return NOT;
    } catch (Refusal r) { return r.code; }
  }
  public int drawn(int seed, int n, int what) {
    if (n < 1 || n > 60 || what < 0 || what > 1) return BAD;
    List<Integer> row = new ArrayList<>();
    long z = seed;
    for (int i = 0; i < n; i++) {
      z = (z * 1103515245L + 12345) & 0xFFFFFFFFL;
      row.add((int) ((z >> 8) % (guests.size() + 1)));
    }
    if (what == 0) return lossOf(row);
    int least = 100;
    for (Scene s : scenes(row).subList(1, n + 1)) least = Math.min(least, s.level[0]);
    return least;
  }

  // ---- in deed

  public int night(int guest) {
    if (guest < 0 || guest >= guests.size()) return BAD;
    spend(now, guest);
    log.add(new int[] {guest, lacks(now)});
    return lacks(now);
  }
  public int set(int thing, int v) {
    if (thing < 0 || thing > 3 || v < 0 || v > 99) return BAD;
    int was = now.level[thing];
    now.level[thing] = v;
    return was;
  }
  public int forget(int guest) {
    if (guest < 0 || guest >= guests.size()) return BAD;
    return now.found.remove(guest) == null ? 0 : 1;
  }
  public int led(int what) {
    int sum = 0, worst = 0, of = NOT;
    for (int i = log.size() - 1; i >= 0; i--) {
      sum += log.get(i)[1];
      if (of == NOT || log.get(i)[1] >= worst) { worst = log.get(i)[1]; of = log.get(i)[0]; }
    }
    return what == 0 ? log.size() : what == 1 ? sum : what == 2 ? worst : what == 3 ? of : BAD;
  }
  public int image() { imageScene = now.copy(); imageLog = new ArrayList<>(log); return log.size(); }
  public int back() {
    if (imageScene == null) return STATE;
    now = imageScene.copy();
    log = new ArrayList<>(imageLog);
    return log.size();
  }
  public int undo() {
    if (done.isEmpty()) return STATE;
    int[] c = done.remove(done.size() - 1);
    become(c[0], c[1], c[2]);
    undone.add(c);
    return done.size();
  }
  public int redo() {
    if (undone.isEmpty()) return STATE;
    int[] c = undone.remove(undone.size() - 1);
    become(c[0], c[1], c[3]);
    done.add(c);
    return undone.size();
  }

  // ---- acts: here the kinds are classes, so the host itself finds the body that runs

  private interface Comes {
    int number();
    List<Integer> steps();
    default int comes(int x) { steps().add(1); return x + number(); }
  }
  private interface Tells extends Comes {
    int leaves(int x);
    int sees(int x);
    default int tells(int x) { steps().add(2); return leaves(x) - sees(1); }
  }
  private static class Stay implements Tells {
    int n;
    List<Integer> steps;
    public int number() { return n; }
    public List<Integer> steps() { return steps; }
    public int leaves(int x) { steps.add(10); return comes(x) * 2; }
    public int sees(int x) { steps.add(11); return x ^ n; }
    public int comes(int x) { return Tells.super.comes(x); }
    public int tells(int x) { return Tells.super.tells(x); }
  }
  private static class Found extends Stay {
    public int comes(int x) { steps.add(20); return super.comes(x) + 3; }
  }
  private static class Taken extends Stay {
    public int leaves(int x) { steps.add(30); return -super.leaves(x); }
  }
  private static class Brought extends Taken {
    public int sees(int x) { steps.add(40); return super.sees(x) * 3; }
    public int leaves(int x) { steps.add(41); return super.leaves(x + 1); }
  }
  private static class Seen extends Found {
    public int tells(int x) { steps.add(50); return super.tells(x) ^ 5; }
  }
  private static class Written extends Brought {
    public int sees(int x) { steps.add(60); return super.sees(x) - comes(2); }
    public int tells(int x) { steps.add(61); return super.tells(x) + 1; }
  }
  private static class Bare extends Stay {
    public int comes(int x) { steps.add(70); return super.comes(x) * 2; }
  }
  private static class Mouse extends Bare {
    public int leaves(int x) { steps.add(80); return super.leaves(x) + sees(2); }
    public int comes(int x) { steps.add(81); return super.comes(x) - 1; }
  }
  private static final List<Class<?>> KINDS = List.of(Stay.class, Found.class, Taken.class, Brought.class,
      Seen.class, Written.class, Bare.class, Mouse.class);

  public int body(int kind) {
    if (kind < 0 || kind > 7) return BAD;
    if (bodies.size() == 50) return FULL;
    Stay b = kind == 0 ? new Stay() : kind == 1 ? new Found() : kind == 2 ? new Taken() : kind == 3 ? new Brought()
        : kind == 4 ? new Seen() : kind == 5 ? new Written() : kind == 6 ? new Bare() : new Mouse();
    b.n = bodies.size();
    bodies.add(b);
    return b.n;
  }
  public int act(int body, int act, int x) {
    ran = new ArrayList<>();
    if (body < 0 || body >= bodies.size() || act < 0 || act > 3) return 0;
    Stay b = bodies.get(body);
    b.steps = ran;
    return act == 0 ? b.comes(x) : act == 1 ? b.leaves(x) : act == 2 ? b.sees(x) : b.tells(x);
  }
  public int trace(int i) { return i < 0 || i >= ran.size() || i >= 24 ? BAD : ran.get(i); }

  // ---- shelves: rows are arrays of the host's

  public int keep(int shelf, int body) {
    if (shelf < 0 || shelf > 5 || body < -1 || body >= bodies.size()) return BAD;
    shelves[shelf] = null;
    if (body >= 0) { shelves[shelf] = new Kept(); shelves[shelf].body = body; }
    return 1;
  }
  public int row(int shelf, int sort, int n) {
    if (shelf < 0 || shelf > 5 || sort < 0 || sort > 4 || n > 60) return BAD;
    if (n < 0) return -14;
    shelves[shelf] = new Kept();
    shelves[shelf].array = sort == 0 ? new byte[n] : sort == 1 ? new short[n] : sort == 2 ? new int[n]
        : sort == 3 ? (Object) new long[n] : new boolean[n];
    return 1;
  }
  public int put(int shelf, int i, long v) {
    if (shelf < 0 || shelf > 5) return BAD;
    if (shelves[shelf] == null) return -11;
    Object a = shelves[shelf].array;
    if (a == null) return -12;
    if (i < 0 || i >= java.lang.reflect.Array.getLength(a)) return -13;
    if (a instanceof byte[]) ((byte[]) a)[i] = (byte) v;
    if (a instanceof short[]) ((short[]) a)[i] = (short) v;
    if (a instanceof int[]) ((int[]) a)[i] = (int) v;
    if (a instanceof long[]) ((long[]) a)[i] = v;
    if (a instanceof boolean[]) ((boolean[]) a)[i] = v != 0;
    return 1;
  }
  public long element(int shelf, int i) {
    if (shelf < 0 || shelf > 5 || shelves[shelf] == null || shelves[shelf].array == null) return Long.MIN_VALUE;
    Object a = shelves[shelf].array;
    if (i < 0 || i >= java.lang.reflect.Array.getLength(a)) return Long.MIN_VALUE;
    return a instanceof boolean[] ? (((boolean[]) a)[i] ? 1 : 0) : java.lang.reflect.Array.getLong(a, i);
  }
  public int shift(int shelf, int i, int other, int j, int n) {
    if (shelf < 0 || shelf > 5 || other < 0 || other > 5) return BAD;
    if (shelves[shelf] == null || shelves[other] == null) return -11;
    Object a = shelves[shelf].array, b = shelves[other].array;
    if (a == null || b == null || a.getClass() != b.getClass()) return -12;
    try { System.arraycopy(a, i, b, j, n); } catch (IndexOutOfBoundsException e) { return -13; }
    return n;
  }
  public int taken(int shelf, int k) {
    if (shelf < 0 || shelf > 5 || k < 0 || k > 7) return BAD;
    if (shelves[shelf] == null) return -11;
    if (shelves[shelf].body < 0) return -12;
    Stay b = bodies.get(shelves[shelf].body);
    return KINDS.get(k).isInstance(b) ? KINDS.indexOf(b.getClass()) : -12;
  }
  public int count(int what) {
    switch (what) {
      case 0: return guests.size();
      case 1: return now.found.size();
      case 2: return tape.length();
      case 3: return done.size();
      case 4: return bodies.size();
      case 5: return ran.size();
      default: return BAD;
    }
  }
}
