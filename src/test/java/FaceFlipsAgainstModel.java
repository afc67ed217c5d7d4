import java.util.Random;

/** Runs of calls drawn by seeds, each answer held against FaceFlipsModel's. */
public final class FaceFlipsAgainstModel {
  private static final String[] WORDS = {"nothing", "ball", "sphere", "row", "round", "cross", "three", "four",
      "keep", "flip", "take", "body"};

  private final Random r;
  private final FaceFlips x = new FaceFlips();
  private final FaceFlipsModel m = new FaceFlipsModel();
  private final int seed;
  private int calls = 0;
  static long all = 0;
  static int wrong = 0;

  private FaceFlipsAgainstModel(int seed) {
    this.seed = seed;
    this.r = new Random(seed);
    this.m.allChains = seed % 50 == 0;
  }

  public static void main(String[] args) {
    int from = args.length > 0 ? Integer.parseInt(args[0]) : 1;
    int to = args.length > 1 ? Integer.parseInt(args[1]) : 300;
    for (int seed = from; seed <= to && wrong < 20; seed++) new FaceFlipsAgainstModel(seed).run();
    System.out.println(all + " answers held against the model's, " + wrong + " wrong");
    if (wrong != 0) System.exit(1);
  }

  private void due(String call, long got, long want) {
    calls++;
    all++;
    if (got != want) {
      wrong++;
      System.out.println("seed " + seed + ", call " + calls + ": " + call + " answered " + got + ", due is " + want);
    }
  }

  private int odd() {
    int[] odd = {-1, -2, -5, -100, 8, 9, 40, 41, 120, 256, 257, 1000, Integer.MIN_VALUE, Integer.MAX_VALUE, 1 << 8};
    return odd[r.nextInt(odd.length)];
  }

  /** A number below n, seldom one that is at an edge or wild. */
  private int num(int n) {
    int t = r.nextInt(40);
    if (t == 0) return odd();
    if (t == 1) return n;
    if (t == 2) return -1;
    return r.nextInt(Math.max(n, 1));
  }

  private int set() {
    int t = r.nextInt(30);
    if (t == 0) return odd();
    if (t < 6) return r.nextInt(257);
    if (t < 16 && m.h.bodies.cardinality() > 0) return m.bodyOf(r.nextInt(m.h.bodies.cardinality())) & r.nextInt(256);
    return pointsOf(t < 22 ? m.h.k : 1 + r.nextInt(4));
  }

  private int pointsOf(int n) {
    int s = 0;
    while (Integer.bitCount(s) < n) s |= 1 << r.nextInt(8);
    return s;
  }

  private int a() {
    if (m.h.flips().isEmpty() || r.nextInt(4) == 0) return set();
    return m.h.aOf(r.nextInt(m.h.flips().size()));
  }

  private void run() {
    if (r.nextInt(2) == 0) due("bodies(4)", x.bodies(4), m.bodies(4));
    int wild = r.nextInt(5);
    while (calls < 512 && wrong < 20) {
      int t = r.nextInt(100);
      if (t < 22) flip();
      else if (t < 23) somewhere(wild);
      else if (t < 30) change(wild);
      else if (t < 36) keptHeaps();
      else if (t < 40) lists();
      else if (t < 41) words();
      else ask();
    }
    for (int what = -1; what < 6; what++) due("count(" + what + ")", x.count(what), m.count(what));
  }

  private void flip() {
    int i = num(m.h.flips().size());
    // What makes heaps less is as likely as what makes them more.
    if (r.nextInt(2) == 0) {
      for (int n = 0; n < m.h.flips().size(); n++) {
        if (Integer.bitCount(m.h.flips().get(m.h.aOf(n))) > 1 && r.nextInt(4) == 0) i = n;
      }
    }
    due("flip(" + i + ")", x.flip(i), m.flip(i));
  }

  /** A heap that is empty becomes one that isn't; a wild run goes on from bodies drawn freely. */
  private void somewhere(int wild) {
    if (m.h.bodies.cardinality() > 0 && wild < 4) return;
    if (wild < 3 || calls > 440) {
      int kind = 1 + r.nextInt(5);
      due("make(" + kind + ")", x.make(kind), m.make(kind));
      return;
    }
    for (int n = r.nextInt(50); n > 0; n--) {
      int s = pointsOf(m.h.k);
      due("body(" + s + ")", x.body(s), m.body(s));
    }
  }

  /** From a kept heap some flips on, and the chain back. */
  private void astray() {
    if (m.kept.isEmpty()) return;
    int kept = r.nextInt(m.kept.size());
    due("take(" + kept + ")", x.take(kept), m.take(kept));
    for (int n = r.nextInt(5); n > 0; n--) flip();
    for (int least = 1; least < 3; least++) {
      for (int i = -1; i < 4; i++) {
        due("chain(" + kept + ", " + least + ", " + i + ")", x.chain(kept, least, i), m.chain(kept, least, i));
      }
    }
  }

  private void change(int wild) {
    int t = r.nextInt(24);
    if (t == 0) {
      int k = r.nextInt(3) == 0 ? num(6) : 3 + r.nextInt(2);
      due("bodies(" + k + ")", x.bodies(k), m.bodies(k));
      if (r.nextInt(4) > 0) due("make(" + k + ")", x.make(k), m.make(k));
    } else if (t < 4) {
      int kind = num(6);
      due("make(" + kind + ")", x.make(kind), m.make(kind));
    } else if (t < 6) {
      int p = num(8);
      due("cone(" + p + ")", x.cone(p), m.cone(p));
    } else if (t < 10) {
      due("back()", x.back(), m.back());
    } else if (t == 10) {
      due("image()", x.image(), m.image());
    } else if (t == 11) {
      due("undo()", x.undo(), m.undo());
    } else if (t < 12 + 3 * wild) {
      int s = r.nextInt(4) == 0 ? set() : pointsOf(m.h.k);
      due("body(" + s + ")", x.body(s), m.body(s));
    } else {
      due("count(2)", x.count(2), m.count(2));
    }
  }

  private void keptHeaps() {
    int one = num(m.kept.size());
    int other = num(m.kept.size());
    int what = num(4);
    switch (r.nextInt(10)) {
      case 0: if (m.h.bodies.isEmpty() && r.nextInt(4) > 0) break; due("keep()", x.keep(), m.keep()); break;
      case 9: astray(); break;
      case 1: due("take(" + one + ")", x.take(one), m.take(one)); break;
      case 2: due("kept(" + one + ", " + what + ")", x.kept(one, what), m.kept(one, what)); break;
      case 3: due("alike(" + one + ", " + other + ")", x.alike(one, other), m.alike(one, other)); break;
      case 4: due("common(" + one + ", " + other + ")", x.common(one, other), m.common(one, other)); break;
      case 5: renamed(); break;
      default:
        int least = 1 + num(2);
        int i = num(5) - 1;
        due("chain(" + one + ", " + least + ", " + i + ")", x.chain(one, least, i), m.chain(one, least, i));
        for (i = -1; i < 4; i++) {
          due("chain(" + one + ", " + least + ", " + i + ")", x.chain(one, least, i), m.chain(one, least, i));
        }
        break;
    }
  }

  /** A kept heap once more with other names for its points, or nearly so. */
  private void renamed() {
    if (m.kept.isEmpty() || m.kept.size() > 3 || calls > 380) return;
    int from = r.nextInt(m.kept.size());
    FaceFlipsModel.H h = m.kept.get(from);
    int[] names = {0, 1, 2, 3, 4, 5, 6, 7};
    for (int p = 7; p > 0; p--) {
      int q = r.nextInt(p + 1);
      int was = names[p];
      names[p] = names[q];
      names[q] = was;
    }
    due("bodies(" + h.k + ")", x.bodies(h.k), m.bodies(h.k));
    for (int s : h.list()) {
      int then = 0;
      for (int p = 0; p < 8; p++) if (FaceFlipsModel.has(s, p)) then |= 1 << names[p];
      if (r.nextInt(40) == 0) then = pointsOf(h.k);
      due("body(" + then + ")", x.body(then), m.body(then));
    }
    due("keep()", x.keep(), m.keep());
    int to = m.kept.size() - 1;
    due("alike(" + from + ", " + to + ")", x.alike(from, to), m.alike(from, to));
    due("common(" + from + ", " + to + ")", x.common(from, to), m.common(from, to));
  }

  private void lists() {
    int l = num(4);
    int o = num(4);
    int size = l >= 0 && l < 4 && m.lists[l] != null ? m.lists[l].length : 3;
    int i = num(size + 1);
    switch (r.nextInt(6)) {
      case 0: {
        int n = r.nextInt(3) == 0 ? num(41) : r.nextInt(12);
        due("list(" + l + ", " + n + ")", x.list(l, n), m.list(l, n));
        break;
      }
      case 1: {
        int n = num(4);
        int j = num(8);
        due("copy(" + l + ", " + i + ", " + o + ", " + j + ", " + n + ")", x.copy(l, i, o, j, n), m.copy(l, i, o, j, n));
        break;
      }
      case 2: due("get(" + l + ", " + i + ")", x.get(l, i), m.get(l, i)); break;
      case 3: {
        int v = r.nextInt(4) == 0 ? r.nextInt() : num(12);
        due("put(" + l + ", " + i + ", " + v + ")", x.put(l, i, v), m.put(l, i, v));
        break;
      }
      case 4: told(); break;
      default: plans(); break;
    }
  }

  /** A list of the bodies, now and then with one that is otherwise, is judged. */
  private void told() {
    int n = m.h.bodies.cardinality();
    if (n > 12 || calls > 480) return;
    int size = Math.max(0, n + r.nextInt(3) - 1);
    due("list(3, " + size + ")", x.list(3, size), m.list(3, size));
    for (int p = 0; p < size; p++) {
      int v = r.nextInt(15) == 0 ? set() : m.bodyOf(p);
      due("put(3, " + p + ", " + v + ")", x.put(3, p, v), m.put(3, p, v));
    }
    due("judge(3)", x.judge(3), m.judge(3));
  }

  /** A list of numbers is a plan, and a shelling. */
  private void plans() {
    int size = r.nextInt(7);
    due("list(2, " + size + ")", x.list(2, size), m.list(2, size));
    for (int p = 0; p < size; p++) {
      int v = r.nextInt(8) == 0 ? num(m.h.flips().size()) : r.nextInt(1 + Math.min(p + 2, m.h.bodies.cardinality()));
      due("put(2, " + p + ", " + v + ")", x.put(2, p, v), m.put(2, p, v));
    }
    due("shelled(2)", x.shelled(2), m.shelled(2));
    for (int what = 0; what < 3; what++) due("plan(2, " + what + ")", x.plan(2, what), m.plan(2, what));
  }

  private void words() {
    StringBuilder b = new StringBuilder();
    int n = r.nextInt(5) == 0 ? 11 + r.nextInt(3) : 1 + r.nextInt(7);
    for (int w = 0; w < n; w++) {
      if (w > 0) b.append(' ');
      int word = r.nextInt(12);
      if (word == 7 && r.nextInt(2) == 0) word = 9;
      b.append(n > 10 ? WORDS[r.nextInt(3) + 8] : WORDS[word]);
      if (b.toString().endsWith("flip")) b.append(r.nextInt(30));
      if (b.toString().endsWith("take")) b.append(r.nextInt(5));
      if (b.toString().endsWith("body")) for (int d = r.nextInt(3) + m.h.k - 1; d > 0; d--) b.append(r.nextInt(r.nextInt(6) == 0 ? 10 : 8));
    }
    if (r.nextInt(3) == 0) b.setCharAt(r.nextInt(b.length()), " 09azAZ{`/:\u0000\u007f".charAt(r.nextInt(13)));
    if (r.nextInt(8) == 0) b.insert(r.nextInt(b.length() + 1), " 7x".charAt(r.nextInt(3)));
    if (calls + b.length() > 505) return;
    for (int c = 0; c < b.length(); c++) due("feed(" + (int) b.charAt(c) + ")", x.feed(b.charAt(c)), m.feed(b.charAt(c)));
    due("count(3)", x.count(3), m.count(3));
    due("read() of '" + b + "'", x.read(), m.read());
    due("spell()", x.spell(), m.spell());
  }

  private void ask() {
    int what = num(9);
    int n = m.h.bodies.cardinality();
    int s = set();
    switch (r.nextInt(20)) {
      case 0: case 1: due("heap(" + what + ")", x.heap(what), m.heap(what)); break;
      case 2: due("faces(" + what + ")", x.faces(what), m.faces(what)); break;
      case 3: case 4: due("face(" + s + ", " + what % 5 + ")", x.face(s, what % 5), m.face(s, what % 5)); break;
      case 5: what = num(n); due("wall(" + what + ")", x.wall(what), m.wall(what)); break;
      case 6: what = num(n); due("bodyOf(" + what + ")", x.bodyOf(what), m.bodyOf(what)); break;
      case 7: {
        int one = num(n);
        int other = num(n);
        due("apart(" + one + ", " + other + ")", x.apart(one, other), m.apart(one, other));
        break;
      }
      case 8: due("flips(" + what + ")", x.flips(what), m.flips(what)); break;
      case 9: case 10: {
        int i = num(m.h.flips().size());
        int w = num(3);
        due("flipOf(" + i + ", " + w + ")", x.flipOf(i, w), m.flipOf(i, w));
        break;
      }
      case 11: s = a(); due("number(" + s + ")", x.number(s), m.number(s)); break;
      case 12: s = a(); due("other(" + s + ")", x.other(s), m.other(s)); break;
      case 13: what = num(2); due("fewer(" + what + ")", x.fewer(what), m.fewer(what)); break;
      case 14: {
        int steps = num(21);
        int z = r.nextInt();
        int w = num(3);
        due("walk(" + steps + ", " + z + ", " + w + ")", x.walk(steps, z, w), m.walk(steps, z, w));
        break;
      }
      case 15: due("spell()", x.spell(), m.spell()); break;
      case 16: what = num(m.paper.length()); due("paper(" + what + ")", x.paper(what), m.paper(what)); break;
      case 17: {
        int list = num(4);
        due("judge(" + list + ")", x.judge(list), m.judge(list));
        due("shelled(" + list + ")", x.shelled(list), m.shelled(list));
        break;
      }
      case 18: {
        int list = num(4);
        int w = num(3);
        due("plan(" + list + ", " + w + ")", x.plan(list, w), m.plan(list, w));
        break;
      }
      default: due("count(" + what + ")", x.count(what), m.count(what)); break;
    }
  }
}
