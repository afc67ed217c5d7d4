import java.util.ArrayDeque;
import java.util.ArrayList;
import java.util.BitSet;
import java.util.HashMap;
import java.util.List;
import java.util.Map;
import java.util.TreeMap;
import java.util.regex.Matcher;
import java.util.regex.Pattern;

/** The document once more, told as plainly as can be, with no eye to speed: what FaceFlips is held against. */
final class FaceFlipsModel {
  static final int NONE = -1, BAD = -2, STATE = -3, FULL = -4, NOT = -5, NOTHING = -11, PLACE = -13, SIZE = -14;
  static final long NO = Long.MIN_VALUE;

  /** K and bodies, never changed once made. */
  static final class H {
    final int k;
    final BitSet bodies;

    H(int k, BitSet bodies) {
      this.k = k;
      this.bodies = bodies;
    }

    @Override public boolean equals(Object o) {
      return o instanceof H h && h.k == k && h.bodies.equals(bodies);
    }

    @Override public int hashCode() {
      return bodies.hashCode() * 31 + k;
    }

    List<Integer> list() {
      List<Integer> l = new ArrayList<>();
      for (int s = bodies.nextSetBit(0); s >= 0; s = bodies.nextSetBit(s + 1)) l.add(s);
      return l;
    }

    boolean face(int set) {
      if (set == 0) return false;
      for (int b : list()) if ((b & set) == set) return true;
      return false;
    }

    int in(int set) {
      int n = 0;
      for (int b : list()) if ((b & set) == set) n++;
      return n;
    }

    BitSet link(int set) {
      BitSet l = new BitSet();
      if (!face(set)) return l;
      for (int y = 0; y < 256; y++) if ((y & set) == 0 && face(y | set)) l.set(y);
      return l;
    }

    int there() {
      int t = 0;
      for (int b : list()) t |= b;
      return t;
    }

    int faces(int j) {
      int n = 0;
      for (int s = 1; s < 256; s++) if (Integer.bitCount(s) == j && face(s)) n++;
      return n;
    }

    int euler() {
      return faces(1) - faces(2) + faces(3) - faces(4);
    }

    List<Integer> walls() {
      List<Integer> w = new ArrayList<>();
      for (int s = 1; s < 256; s++) if (Integer.bitCount(s) == k - 1 && in(s) == 1) w.add(s);
      return w;
    }

    boolean right() {
      for (int s = 1; s < 256; s++) if (Integer.bitCount(s) == k - 1 && in(s) > 2) return false;
      return true;
    }

    boolean beside(int x, int y) {
      return Integer.bitCount(x & y) == k - 1;
    }

    Map<Integer, Integer> stepsFrom(int body) {
      Map<Integer, Integer> steps = new HashMap<>();
      ArrayDeque<Integer> open = new ArrayDeque<>();
      steps.put(body, 0);
      open.add(body);
      while (!open.isEmpty()) {
        int x = open.remove();
        for (int y : list()) {
          if (!steps.containsKey(y) && beside(x, y)) {
            steps.put(y, steps.get(x) + 1);
            open.add(y);
          }
        }
      }
      return steps;
    }

    int parts() {
      List<Integer> left = list();
      int n = 0;
      while (!left.isEmpty()) {
        left.removeAll(stepsFrom(left.get(0)).keySet());
        n++;
      }
      return n;
    }

    /** By signs forced through each part, in the document's words; every pair is looked at. */
    boolean twoSided() {
      Map<Integer, Integer> sign = new HashMap<>();
      for (int start : list()) {
        if (sign.containsKey(start)) continue;
        sign.put(start, 1);
        boolean more = true;
        while (more) {
          more = false;
          for (int x : list()) {
            for (int y : list()) {
              if (sign.containsKey(x) && !sign.containsKey(y) && beside(x, y)) {
                sign.put(y, same(x, y) ? sign.get(x) : -sign.get(x));
                more = true;
              }
            }
          }
        }
      }
      for (int x : list()) {
        for (int y : list()) {
          if (beside(x, y) && same(x, y) != sign.get(x).equals(sign.get(y))) return false;
        }
      }
      return true;
    }

    private static boolean same(int x, int y) {
      return (less(x, only(x, y)) + less(y, only(y, x))) % 2 == 1;
    }

    private static int only(int x, int y) {
      for (int p = 0; p < 8; p++) if (has(x, p) && !has(y, p)) return p;
      throw new IllegalStateException();
    }

    private static int less(int x, int point) {
      int n = 0;
      for (int p = 0; p < point; p++) if (has(x, p)) n++;
      return n;
    }

    /** Each a that has a flip, with its b. */
    TreeMap<Integer, Integer> flips() {
      TreeMap<Integer, Integer> known = FLIPS.get(this);
      if (known != null) return known;
      if (FLIPS.size() > 100000) FLIPS.clear();
      boolean[] face = new boolean[256];
      for (int s = 1; s < 256; s++) face[s] = face(s);
      TreeMap<Integer, Integer> all = new TreeMap<>();
      for (int a = 1; a < 256; a++) {
        if (!face[a]) continue;
        if (bodies.get(a)) {
          for (int p = 7; p >= 0; p--) if (!face[1 << p]) all.put(a, 1 << p);
          continue;
        }
        BitSet link = new BitSet();
        for (int y = 0; y < 256; y++) if ((y & a) == 0 && face[y | a]) link.set(y);
        for (int b = 1; b < 256; b++) {
          if ((a & b) == 0 && Integer.bitCount(a | b) == k + 1 && !face[b] && link.equals(PROPER[b])) all.put(a, b);
        }
      }
      FLIPS.put(this, all);
      return all;
    }

    H flipped(int a) {
      int b = flips().get(a);
      BitSet then = new BitSet();
      for (int x : list()) if ((x & a) != a) then.set(x);
      for (int s = 1; s < 256; s++) {
        if (Integer.bitCount(s) == k && (s & ~(a | b)) == 0 && (s & b) == b) then.set(s);
      }
      return new H(k, then);
    }

    int aOf(int i) {
      return new ArrayList<>(flips().keySet()).get(i);
    }

    int numberOf(int a) {
      return flips().containsKey(a) ? flips().headMap(a).size() : NOT;
    }
  }

  private static final Map<H, TreeMap<Integer, Integer>> FLIPS = new HashMap<>();
  private static final BitSet[] PROPER = new BitSet[256];
  private static final List<int[]> RENAMINGS = new ArrayList<>();

  static {
    for (int b = 0; b < 256; b++) {
      PROPER[b] = new BitSet();
      for (int c = 0; c < b; c++) if ((c & ~b) == 0) PROPER[b].set(c);
    }
    renamings(new int[8], 0, 0);
  }

  private static void renamings(int[] names, int p, int used) {
    if (p == 8) {
      RENAMINGS.add(names.clone());
      return;
    }
    for (int q = 0; q < 8; q++) {
      if (!has(used, q)) {
        names[p] = q;
        renamings(names, p + 1, used | 1 << q);
      }
    }
  }

  static boolean has(int set, int p) {
    return (set >> p & 1) == 1;
  }

  H h = new H(3, new BitSet());
  List<H> kept = new ArrayList<>();
  final List<H> past = new ArrayList<>();
  H imageHeap = null;
  List<H> imageKept = null;
  final int[][] lists = new int[4][];
  String text = "";
  String paper = "";

  private void step(H then) {
    past.add(h);
    if (past.size() > 8) past.remove(0);
    h = then;
  }

  private int size() {
    return h.bodies.cardinality();
  }

  int bodies(int k) {
    if (k < 3 || k > 4) return BAD;
    int was = h.k;
    h = new H(k, new BitSet());
    past.clear();
    return was;
  }

  int make(int kind) {
    if (kind < 0 || kind > 5) return NONE;
    BitSet b = new BitSet();
    int k = h.k;
    for (int s = 0; s < 256; s++) {
      if (Integer.bitCount(s) != k) continue;
      int low = Integer.numberOfTrailingZeros(s);
      boolean run = s >> low == (1 << k) - 1;
      int turned = 0;
      for (int i = 0; i < 8; i++) {
        int r = (s << i | s >> (8 - i)) & 255;
        if (r == (1 << k) - 1) turned++;
      }
      boolean cross = true;
      for (int q = 0; q < k; q++) cross &= has(s, 2 * q) != has(s, 2 * q + 1);
      boolean in = kind == 1 ? s == (1 << k) - 1 : kind == 2 ? s < 1 << (k + 1) : kind == 3 ? run
          : kind == 4 ? turned > 0 : kind == 5 && cross;
      if (in) b.set(s);
    }
    step(new H(k, b));
    return size();
  }

  int body(int set) {
    if (set < 0 || set > 255 || Integer.bitCount(set) != h.k) return NONE;
    BitSet b = (BitSet) h.bodies.clone();
    b.flip(set);
    step(new H(h.k, b));
    return size();
  }

  int bodyOf(int i) {
    if (i < 0) return NONE;
    return i < size() ? h.list().get(i) : NOT;
  }

  int heap(int what) {
    switch (what) {
      case 0: return h.k;
      case 1: return size();
      case 2: return h.there();
      case 3: return h.walls().size();
      case 4: return h.right() ? 1 : 0;
      case 5: return 100 + h.euler();
      case 6: return h.parts();
      case 7: return h.twoSided() ? 1 : 0;
      default: return NONE;
    }
  }

  int faces(int j) {
    return j < 1 || j > 4 ? BAD : h.faces(j);
  }

  int face(int set, int what) {
    if (set < 1 || set > 255 || what < 0 || what > 3) return NONE;
    if (what == 0) return h.face(set) ? 1 : 0;
    if (what == 1) return h.in(set);
    BitSet link = h.link(set);
    if (what == 2) return link.cardinality();
    int points = 0;
    for (int y = link.nextSetBit(0); y >= 0; y = link.nextSetBit(y + 1)) points |= y;
    return points;
  }

  int wall(int i) {
    if (i < 0) return NONE;
    List<Integer> w = h.walls();
    return i < w.size() ? w.get(i) : NOT;
  }

  int apart(int one, int other) {
    if (one < 0 || other < 0 || one >= size() || other >= size()) return NONE;
    return h.stepsFrom(h.list().get(one)).getOrDefault(h.list().get(other), NOT);
  }

  private boolean noList(int list) {
    return list < 0 || list > 3;
  }

  int shelled(int list) {
    if (noList(list)) return NONE;
    if (lists[list] == null) return NOTHING;
    List<Integer> told = new ArrayList<>();
    for (int place = 0; place < lists[list].length; place++) {
      int n = lists[list][place];
      if (n < 0 || n >= size()) return place;
      int s = h.list().get(n);
      if (told.contains(s)) return place;
      for (int e : told) {
        boolean within = false;
        for (int f : told) within |= h.beside(s, f) && (s & e & ~(s & f)) == 0;
        if (!within) return place;
      }
      told.add(s);
    }
    return NOT;
  }

  int flips(int sort) {
    if (sort < 0 || sort > h.k) return BAD;
    int n = 0;
    for (int b : h.flips().values()) if (sort == 0 || Integer.bitCount(b) == sort) n++;
    return n;
  }

  int flipOf(int i, int what) {
    if (i < 0 || i >= h.flips().size() || what < 0 || what > 2) return NONE;
    int a = h.aOf(i);
    return what == 0 ? a : what == 1 ? h.flips().get(a) : h.in(a);
  }

  int number(int a) {
    return a < 1 || a > 255 ? NONE : h.numberOf(a);
  }

  int flip(int i) {
    if (i < 0 || i >= h.flips().size()) return NONE;
    step(h.flipped(h.aOf(i)));
    return size();
  }

  int other(int a) {
    if (a < 1 || a > 255) return NONE;
    Integer b = h.flips().get(a);
    if (b == null) return NOT;
    H then = h.flipped(a);
    Integer back = then.flips().get(b);
    return back != null && back == a ? then.numberOf(b) : NOT;
  }

  int plan(int list, int what) {
    if (noList(list) || what < 0 || what > 2) return NONE;
    if (lists[list] == null) return NOTHING;
    H t = h;
    int n = 0;
    for (int i : lists[list]) {
      if (i < 0 || i >= t.flips().size()) break;
      t = t.flipped(t.aOf(i));
      n++;
    }
    return what == 0 ? n : what == 1 ? t.bodies.cardinality() : 100 + t.euler();
  }

  int cone(int p) {
    if (p < 0 || p > 7) return NONE;
    if (has(h.there(), p)) return STATE;
    BitSet b = (BitSet) h.bodies.clone();
    for (int w : h.walls()) b.set(w | 1 << p);
    step(new H(h.k, b));
    return size();
  }

  int back() {
    if (past.isEmpty()) return STATE;
    h = past.remove(past.size() - 1);
    return size();
  }

  int keep() {
    if (kept.size() == 4) return FULL;
    kept.add(h);
    return kept.size() - 1;
  }

  int take(int n) {
    if (n < 0 || n >= kept.size()) return NONE;
    h = kept.get(n);
    past.clear();
    return size();
  }

  int kept(int n, int what) {
    if (n < 0 || n >= kept.size() || what < 0 || what > 3) return NONE;
    H q = kept.get(n);
    return what == 0 ? q.k : what == 1 ? q.bodies.cardinality() : what == 2 ? 100 + q.euler() : q.walls().size();
  }

  int chain(int n, int least, int i) {
    if (n < 0 || n >= kept.size() || i < -1) return NONE;
    if (least < 1 || least > 2) return BAD;
    H goal = kept.get(n);
    if (goal.k != h.k) return STATE;
    for (int length = 0; length <= 3; length++) {
      List<Integer> path = path(h, goal, least, length);
      if (path != null) return i == -1 ? length : i < length ? path.get(i) : NOT;
    }
    return NOT;
  }

  /** Whether chains are looked for without any skill: slow, so that a few objects do it. */
  boolean allChains = false;

  private List<Integer> path(H from, H goal, int least, int length) {
    if (length == 0) return from.equals(goal) ? new ArrayList<>() : null;
    BitSet unlike = (BitSet) from.bodies.clone();
    unlike.xor(goal.bodies);
    // A flip of K + 1 points changes just K + 1 bodies.
    if (!allChains && unlike.cardinality() > length * (from.k + 1)) return null;
    int number = -1;
    for (Map.Entry<Integer, Integer> f : from.flips().entrySet()) {
      number++;
      if (Integer.bitCount(f.getValue()) < least) continue;
      List<Integer> rest = path(from.flipped(f.getKey()), goal, least, length - 1);
      if (rest != null) {
        rest.add(0, number);
        return rest;
      }
    }
    return null;
  }

  int alike(int one, int other) {
    if (one < 0 || other < 0 || one >= kept.size() || other >= kept.size()) return NONE;
    H x = kept.get(one);
    H y = kept.get(other);
    if (x.k != y.k || x.bodies.cardinality() != y.bodies.cardinality()) return 0;
    List<Integer> list = x.list();
    for (int[] names : RENAMINGS) {
      boolean all = true;
      for (int s : list) {
        int then = 0;
        for (int p = 0; p < 8; p++) if (has(s, p)) then |= 1 << names[p];
        if (!y.bodies.get(then)) {
          all = false;
          break;
        }
      }
      if (all) return 1;
    }
    return 0;
  }

  int common(int one, int other) {
    if (one < 0 || other < 0 || one >= kept.size() || other >= kept.size()) return NONE;
    BitSet both = (BitSet) kept.get(one).bodies.clone();
    both.and(kept.get(other).bodies);
    return both.cardinality();
  }

  int fewer(int what) {
    if (what != 0 && what != 1) return NONE;
    H t = h;
    int n = 0;
    boolean more = true;
    while (more) {
      more = false;
      for (int a : t.flips().keySet()) {
        H then = t.flipped(a);
        if (then.bodies.cardinality() < t.bodies.cardinality()) {
          t = then;
          n++;
          more = true;
          break;
        }
      }
    }
    return what == 0 ? n : t.bodies.cardinality();
  }

  int walk(int n, int z, int what) {
    if (n < 0 || n > 20) return BAD;
    if (what < 0 || what > 2) return NONE;
    H t = h;
    long seed = z;
    for (int i = 0; i < n; i++) {
      int m = t.flips().size();
      if (m == 0) continue;
      seed = (seed * 1103515245L + 12345L) & 0xffffffffL;
      t = t.flipped(t.aOf((int) ((seed % 0x80000000L) / 65536L % m)));
    }
    return what == 0 ? t.bodies.cardinality() : what == 1 ? t.there() : 100 + t.euler();
  }

  int feed(int sign) {
    if (sign < 0 || sign > 127) return BAD;
    if (text.length() == 120) return FULL;
    text += (char) sign;
    return text.length();
  }

  private static final Pattern WORD = Pattern.compile("([a-z]+)([0-9]*)");
  private static final Pattern KNOWN =
      Pattern.compile("(nothing|ball|sphere|row|round|cross|three|four|keep)|flip[0-9]{1,2}|take[0-9]|body[0-9]{1,8}");

  int read() {
    String t = text;
    text = "";
    List<String[]> words = new ArrayList<>();
    int at = 0;
    while (true) {
      Matcher m = WORD.matcher(t);
      m.region(at, t.length());
      if (!m.lookingAt() || !KNOWN.matcher(m.group()).matches()) return -100 - at;
      words.add(new String[] {m.group(1), m.group(2)});
      at = m.end();
      if (at == t.length()) break;
      if (t.charAt(at) != ' ' || words.size() == 12) return -100 - at;
      at++;
    }
    int ok = 0;
    for (String[] w : words) if (obey(w[0], w[1]) >= 0) ok++;
    past.clear();
    return ok;
  }

  private int obey(String word, String digits) {
    switch (word) {
      case "nothing": return make(0);
      case "ball": return make(1);
      case "sphere": return make(2);
      case "row": return make(3);
      case "round": return make(4);
      case "cross": return make(5);
      case "three": return bodies(3);
      case "four": return bodies(4);
      case "flip": return flip(Integer.parseInt(digits));
      case "keep": return keep();
      case "take": return take(Integer.parseInt(digits));
      default:
        int set = 0;
        for (char c : digits.toCharArray()) {
          if (c > '7') return NONE;
          set |= 1 << (c - '0');
        }
        return body(set);
    }
  }

  int spell() {
    List<String> words = new ArrayList<>();
    for (int s : h.list()) {
      String w = "";
      for (int p = 0; p < 8; p++) if (has(s, p)) w += p;
      words.add(w);
    }
    paper = String.join(" ", words);
    return paper.length();
  }

  int paper(int i) {
    return i < 0 || i >= paper.length() ? NONE : paper.charAt(i);
  }

  int judge(int list) {
    if (noList(list)) return NONE;
    if (lists[list] == null) return NOTHING;
    List<Integer> due = h.list();
    int[] told = lists[list];
    for (int i = 0; i < Math.max(due.size(), told.length); i++) {
      if (i >= due.size() || i >= told.length || due.get(i) != told[i]) return i;
    }
    return NOT;
  }

  int list(int list, int n) {
    if (noList(list)) return NONE;
    if (n > 40) return BAD;
    if (n < 0) return SIZE;
    lists[list] = new int[n];
    return 1;
  }

  int put(int list, int i, int v) {
    if (noList(list)) return NONE;
    if (lists[list] == null) return NOTHING;
    if (i < 0 || i >= lists[list].length) return PLACE;
    lists[list][i] = v;
    return 1;
  }

  long get(int list, int i) {
    if (noList(list) || lists[list] == null || i < 0 || i >= lists[list].length) return NO;
    return lists[list][i];
  }

  int copy(int list, int i, int other, int j, int n) {
    if (noList(list) || noList(other)) return NONE;
    if (lists[list] == null || lists[other] == null) return NOTHING;
    if (n < 0 || i < 0 || j < 0) return PLACE;
    if ((long) i + n > lists[list].length || (long) j + n > lists[other].length) return PLACE;
    int[] was = lists[list].clone();
    for (int d = 0; d < n; d++) lists[other][j + d] = was[i + d];
    return n;
  }

  int image() {
    imageHeap = h;
    imageKept = new ArrayList<>(kept);
    return size();
  }

  int undo() {
    if (imageHeap == null) return STATE;
    h = imageHeap;
    kept = new ArrayList<>(imageKept);
    past.clear();
    return size();
  }

  int count(int what) {
    switch (what) {
      case 0: return size();
      case 1: return kept.size();
      case 2: return past.size();
      case 3: return text.length();
      case 4: return paper.length();
      default: return BAD;
    }
  }
}
