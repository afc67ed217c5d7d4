/** The boundaries of each promise: the last value that a call takes and the first that it refuses, on both sides. */
final class FaceFlipsCallEdges extends FaceFlipsDue {
  private static final long NO = Long.MIN_VALUE;

  static void run() {
    use();
    constants();
    newObject();
    bodies();
    make();
    body();
    bodyOf();
    heap();
    faces();
    face();
    wall();
    apart();
    shelled();
    flips();
    flipOf();
    number();
    flip();
    other();
    plan();
    cone();
    back();
    keep();
    take();
    kept();
    chain();
    alike();
    common();
    fewer();
    walk();
    feed();
    read();
    spell();
    paper();
    judge();
    list();
    put();
    get();
    copy();
    image();
    undo();
    count();
  }

  private static void use() {
    edge("use", "An object is used for at most 512 calls after it has been made; what later calls answer is free.");
    FaceFlips x = new FaceFlips();
    for (int i = 1; i < 512; i++) due("call " + i, x.make(i % 6), new int[] {0, 1, 4, 6, 8, 8}[i % 6]);
    due("call 512", x.heap(1), 1);
    x = made(4, 5);
    for (int i = 3; i < 512; i++) due("flip(0), call " + i, x.flip(0) > 0 ? 1 : 0, 1);
    due("flip(0), call 512", x.flip(0) > 0 ? 1 : 0, 1);
    x = new FaceFlips();
    for (int i = 1; i < 512; i++) due("feed(97), call " + i, x.feed(97), i > 120 ? FULL : i);
    due("count(3), call 512", x.count(3), 120);
  }

  private static void constants() {
    edge("constants", "`NO = Long.MIN_VALUE`: There is no such number.");
    due("NO", FaceFlips.NO, -9223372036854775807L - 1);
    due("get(0, 0)", new FaceFlips().get(0, 0), NO);
    FaceFlips x = tell(new FaceFlips(), 0, LOW);
    due("get(0, 0) of the least int", x.get(0, 0), -2147483648L);
  }

  private static void newObject() {
    edge("promise 1", "K 3, no BODIES.");
    FaceFlips busy = full(4);
    busy.keep();
    FaceFlips x = new FaceFlips();
    int[] heap = {3, 0, 0, 0, 1, 100, 0, 1};
    for (int what = 0; what < 8; what++) due("heap(" + what + ")", x.heap(what), heap[what]);
    for (int what = 0; what < 5; what++) due("count(" + what + ")", x.count(what), 0);
    for (int j = 1; j < 5; j++) due("faces(" + j + ")", x.faces(j), 0);
    due("bodyOf(0)", x.bodyOf(0), NOT);
    due("wall(0)", x.wall(0), NOT);
    due("flips(0)", x.flips(0), 0);
    due("back()", x.back(), STATE);
    due("undo()", x.undo(), STATE);
    due("take(0)", x.take(0), NONE);
    for (int l = 0; l < 4; l++) due("judge(" + l + ")", x.judge(l), NOTHING);
    due("bodies(3)", x.bodies(3), 3);
  }

  private static void bodies() {
    edge("promise 2", "K becomes k (3, 4), there are no BODIES then: the K there was.");
    FaceFlips x = made(3, 4);
    x.keep();
    due("bodies(3)", x.bodies(3), 3);
    has("bodies(3)", x);
    x.make(4);
    due("bodies(4)", x.bodies(4), 3);
    has("bodies(4)", x);
    x.make(4);
    due("bodies(4)", x.bodies(4), 4);
    has("bodies(4)", x);
    due("faces(1)", x.faces(1), 0);
    due("bodies(3)", x.bodies(3), 4);
    due("kept(0, 1)", x.kept(0, 1), 8);
    edge("promise 2", "BAD.");
    for (int k : new int[] {2, 5, 1, 0, -1, -3, -4, 256 + 3, LOW + 3, LOW, BIG}) {
      x = made(4, 2);
      due("bodies(" + k + ")", x.bodies(k), BAD);
      due("heap(0)", x.heap(0), 4);
      due("heap(1)", x.heap(1), 5);
    }
  }

  private static void make() {
    edge("promise 3", "THE HEAP is MADE of a KIND: how many BODIES.");
    int[][] many = {{0, 1, 4, 6, 8, 8}, {0, 1, 5, 5, 8, 16}};
    for (int k = 3; k < 5; k++) {
      FaceFlips x = full(k);
      for (int kind = 5; kind >= 0; kind--) {
        due("make(" + kind + ")", x.make(kind), many[k - 3][kind]);
        due("heap(1)", x.heap(1), many[k - 3][kind]);
        due("heap(0)", x.heap(0), k);
      }
    }
    edge("promise 3", "NONE.");
    for (int kind : new int[] {-1, 6, 7, 256, LOW, BIG}) {
      FaceFlips x = made(4, 1);
      due("make(" + kind + ")", x.make(kind), NONE);
      has("make(" + kind + ")", x, 15);
    }
  }

  private static void body() {
    edge("promise 4", "A set is a BODY then, or, if it was one, no more: how many there are.");
    for (int k = 3; k < 5; k++) {
      FaceFlips x = of(k);
      int first = (1 << k) - 1;
      int last = first << (8 - k);
      due("the first in", x.body(first), 1);
      due("the first out", x.body(first), 0);
      int n = 0;
      for (int s = 0; s < 256; s++) if (Integer.bitCount(s) == k) due("body(" + s + ")", x.body(s), ++n);
      due("all", n, k == 3 ? 56 : 70);
      due("the last out", x.body(last), n - 1);
      due("bodyOf of the last", x.bodyOf(n - 1), NOT);
      due("the last in", x.body(last), n);
      due("bodyOf of the last", x.bodyOf(n - 1), last);
      for (int s = 255; s >= 0; s--) if (Integer.bitCount(s) == k) due("body(" + s + ")", x.body(s), --n);
      due("heap(2)", x.heap(2), 0);
    }
    edge("promise 4", "NONE: not K POINTS.");
    for (int k = 3; k < 5; k++) {
      FaceFlips x = of(k);
      for (int s = 0; s <= 256; s++) if (Integer.bitCount(s) != k) due("body(" + s + ")", x.body(s), NONE);
      for (int s : new int[] {256 + 3, 256 + 7, 512 + 7, -1, -7, -249, LOW, LOW + 3, LOW + 7, BIG}) {
        due("body(" + s + ")", x.body(s), NONE);
      }
      due("heap(1)", x.heap(1), 0);
      due("count(2)", x.count(2), 0);
    }
  }

  private static void bodyOf() {
    edge("promise 5", "BODY i, the least first, from 0; -5: there are not as many.");
    for (int k = 3; k < 5; k++) {
      FaceFlips x = full(k);
      int i = 0;
      for (int s = 0; s < 256; s++) if (Integer.bitCount(s) == k) due("bodyOf(" + i + ")", x.bodyOf(i++), s);
      due("bodyOf(" + i + ")", x.bodyOf(i), NOT);
      due("bodyOf(BIG)", x.bodyOf(BIG), NOT);
    }
    due("bodyOf(0) of one", of(3, 224).bodyOf(0), 224);
    due("bodyOf(1) of one", of(3, 224).bodyOf(1), NOT);
    due("bodyOf(0) of none", of(3).bodyOf(0), NOT);
    edge("promise 5", "NONE: i below 0.");
    due("bodyOf(-1)", of(3, 224).bodyOf(-1), NONE);
    due("bodyOf(LOW)", of(3, 224).bodyOf(LOW), NONE);
    due("bodyOf(-1) of none", of(3).bodyOf(-1), NONE);
  }

  private static void heaps(FaceFlips x, int... want) {
    // From the last on, too: none of them needs that another was asked.
    for (int what = 7; what >= 0; what--) due("heap(" + what + ")", x.heap(what), want[what]);
  }

  private static void heap() {
    edge("promise 6", "K (what 0), how many BODIES (1), POINTS that are THERE (2, bits), how many WALLS (3), whether it is"
        + " RIGHT (4; 1, 0), 100 plus EULER (5), PARTS (6), whether it is TWO-SIDED (7; 1, 0).");
    heaps(of(3), 3, 0, 0, 0, 1, 100, 0, 1);
    heaps(of(4), 4, 0, 0, 0, 1, 100, 0, 1);
    heaps(of(3, 224), 3, 1, 224, 3, 1, 101, 1, 1);
    heaps(full(3), 3, 56, 255, 0, 0, 136, 1, 0);
    heaps(full(4), 4, 70, 255, 0, 0, 66, 1, 0);
    heaps(spread(), 4, 14, 255, 56, 1, 122, 14, 1);
    heaps(of(3, 7, 11, 19, 224), 3, 4, 255, 9, 0, 102, 2, 0);
    edge("promise 6", "NONE.");
    for (int what : new int[] {-1, 8, LOW, BIG}) {
      due("heap(" + what + ")", made(3, 2).heap(what), NONE);
      due("heap(" + what + ") of none", of(4).heap(what), NONE);
    }
  }

  private static void faces() {
    edge("promise 7", "How many FACES have j POINTS (1 .. 4).");
    int[][] want = {{0, 0, 0, 0}, {3, 3, 1, 0}, {8, 28, 56, 0}, {4, 6, 4, 1}, {8, 28, 56, 70}, {8, 28, 56, 14}};
    FaceFlips[] heaps = {of(3), of(3, 224), full(3), of(4, 240), full(4), spread()};
    for (int h = 0; h < heaps.length; h++) {
      for (int j = 1; j < 5; j++) due("faces(" + j + ") of " + h, heaps[h].faces(j), want[h][j - 1]);
    }
    edge("promise 7", "BAD.");
    for (int j : new int[] {0, 5, -1, LOW, BIG}) {
      for (FaceFlips x : heaps) due("faces(" + j + ")", x.faces(j), BAD);
    }
  }

  private static void face() {
    edge("promise 8", "Of a set whether it is a FACE (what 0; 1, 0), in how many BODIES it lies (1), how many sets are in"
        + " its LINK (2; 0: no FACE), POINTS of these all together (3, bits).");
    int[][] want = {{1, 1, 1, 8, 14}, {128, 0, 0, 0, 0}, {255, 0, 0, 0, 0}, {15, 1, 1, 1, 0}, {31, 0, 0, 0, 0},
        {14, 1, 2, 3, 17}, {9, 1, 1, 4, 6}, {24, 1, 1, 4, 6}, {17, 0, 0, 0, 0}};
    FaceFlips x = of(4, 15, 30);
    for (int[] w : want) {
      for (int what = 0; what < 4; what++) due("face(" + w[0] + ", " + what + ")", x.face(w[0], what), w[1 + what]);
    }
    edge("promise 8", "NONE: no set of POINTS (bits 1 .. 255), what.");
    for (int what = 0; what < 4; what++) {
      for (int set : new int[] {0, 256, 257, -1, LOW, LOW + 1, BIG}) {
        due("face(" + set + ", " + what + ")", x.face(set, what), NONE);
      }
      due("face(1, " + what + ") of none", of(3).face(1, what), 0);
      due("face(255, " + what + ") of none", of(3).face(255, what), 0);
    }
    for (int what : new int[] {-1, 4, LOW, BIG}) {
      for (int set : new int[] {0, 1, 15, 255, 256}) due("face(" + set + ", " + what + ")", x.face(set, what), NONE);
    }
  }

  private static void wall() {
    edge("promise 9", "WALL i, the least first, from 0; -5: there are not as many.");
    FaceFlips x = spread();
    int i = 0;
    for (int s = 0; s < 256; s++) if (Integer.bitCount(s) == 3) due("wall(" + i + ")", x.wall(i++), s);
    due("wall(56)", x.wall(56), NOT);
    due("wall(BIG)", x.wall(BIG), NOT);
    due("wall(0) of none", of(3).wall(0), NOT);
    due("wall(0) of a sphere", made(3, 2).wall(0), NOT);
    due("wall(2)", of(3, 224).wall(2), 192);
    due("wall(3)", of(3, 224).wall(3), NOT);
    edge("promise 9", "NONE: i below 0.");
    due("wall(-1)", x.wall(-1), NONE);
    due("wall(LOW)", x.wall(LOW), NONE);
    due("wall(-1) of none", of(3).wall(-1), NONE);
  }

  private static void apart() {
    edge("promise 10", "APART of the BODIES numbered so; -5.");
    FaceFlips x = of(3, 7, 14, 112);
    due("apart(0, 0)", x.apart(0, 0), 0);
    due("apart(2, 2)", x.apart(2, 2), 0);
    due("apart(0, 1)", x.apart(0, 1), 1);
    due("apart(0, 2)", x.apart(0, 2), NOT);
    due("apart(2, 0)", x.apart(2, 0), NOT);
    edge("promise 10", "NONE.");
    for (int n : new int[] {-1, 3, LOW, BIG}) {
      due("apart(" + n + ", 0)", x.apart(n, 0), NONE);
      due("apart(2, " + n + ")", x.apart(2, n), NONE);
      due("apart(" + n + ", " + n + ")", x.apart(n, n), NONE);
    }
    due("apart(0, 0) of none", of(3).apart(0, 0), NONE);
    due("apart(70, 69) of all", full(4).apart(70, 69), NONE);
    // What was there before fewer bodies came is not there still.
    x = made(3, 5);
    due("apart(7, 0) of eight", x.apart(7, 0), 3);
    x.make(1);
    due("apart(7, 0) of one", x.apart(7, 0), NONE);
    due("apart(0, 1) of one", x.apart(0, 1), NONE);
  }

  private static void shelled() {
    edge("promise 11", "SHELLED by a LIST: the first place that tells no BODY, one a second time, or one that doesn't"
        + " fit; -5.");
    FaceFlips x = made(3, 3);
    int[][] told = {{NOT, 5}, {0, 6}, {0, -1}, {0, LOW}, {0, BIG}, {NOT, 2, 3}, {1, 2, 2}, {1, 2, 4}, {1, 2, 6}, {1, 2, -1},
        {2, 2, 3, 2}, {2, 2, 3, 3}, {2, 2, 3, 5}, {0, 6, 0, 0}, {NOT}};
    for (int[] t : told) shells(x, t[0], java.util.Arrays.copyOfRange(t, 1, t.length));
    // Fewer bodies behind more: a number that was one is none.
    x = made(3, 5);
    shells(x, NOT, 7);
    x.make(2);
    shells(x, 0, 4);
    shells(x, 0, 7);
    shells(x, NOT, 3);
    // With point 0 alone in what it has not in common, and with the last point.
    shells(of(3, 7, 28), 1, 1, 0);
    shells(of(3, 7, 224), 1, 1, 0);
    shells(of(3, 7, 224), 1, 0, 1);
    edge("promise 11", "NONE; NOTHING.");
    x.list(0, 0);
    for (int l : new int[] {-1, 4, LOW, BIG}) due("shelled(" + l + ")", x.shelled(l), NONE);
    due("shelled(3)", x.shelled(3), NOTHING);
    due("shelled(0)", x.shelled(0), NOT);
  }

  private static void shells(FaceFlips x, int want, int... told) {
    due("shelled() of " + java.util.Arrays.toString(told), tell(x, 0, told).shelled(0), want);
  }

  private static void flips() {
    edge("promise 12", "How many FLIPS there are of a SORT (1 .. K); of all (0).");
    int[][] want = {{0, 0, 0, 0}, {1, 1, 0, 0}, {3, 2, 1, 0}, {4, 3, 0, 1}, {5, 0, 5, 0}};
    FaceFlips[] threes = {of(3), of(3, 224), of(3, 7, 14), of(3, 11, 13, 14), made(3, 3)};
    for (int h = 0; h < 5; h++) {
      for (int sort = 0; sort < 4; sort++) due("flips(" + sort + ") of " + h, threes[h].flips(sort), want[h][sort]);
    }
    int[] four = {5, 4, 0, 0, 1};
    for (int sort = 0; sort < 5; sort++) {
      due("flips(" + sort + ") of 4", of(4, 23, 27, 29, 30).flips(sort), four[sort]);
      due("flips(" + sort + ") of none of 4", of(4).flips(sort), 0);
      due("flips(" + sort + ") of all of 4", full(4).flips(sort), 0);
    }
    edge("promise 12", "BAD.");
    for (int sort : new int[] {-1, 4, 5, LOW, BIG}) due("flips(" + sort + ")", of(3, 7).flips(sort), BAD);
    for (int sort : new int[] {-1, 5, 6, LOW, BIG}) due("flips(" + sort + ") of 4", of(4).flips(sort), BAD);
  }

  private static void flipOf() {
    edge("promise 13", "Of FLIP i a (what 0), b (1), SORT (2).");
    FaceFlips x = of(3, 7, 14);
    int[][] want = {{6, 9, 2}, {7, 16, 1}, {14, 16, 1}};
    for (int i = 0; i < 3; i++) {
      for (int what = 0; what < 3; what++) due("flipOf(" + i + ", " + what + ")", x.flipOf(i, what), want[i][what]);
    }
    edge("promise 13", "NONE.");
    for (int i : new int[] {-1, 3, LOW, BIG}) {
      for (int what = -1; what < 4; what++) due("flipOf(" + i + ", " + what + ")", x.flipOf(i, what), NONE);
    }
    for (int what : new int[] {-1, 3, LOW, BIG}) {
      for (int i = 0; i < 3; i++) due("flipOf(" + i + ", " + what + ")", x.flipOf(i, what), NONE);
    }
    due("flipOf(0, 0) of none", of(3).flipOf(0, 0), NONE);
    due("flipOf(0, 0) where no flip is", spread().flipOf(0, 0), NONE);
    due("flipOf(31, 2)", made(4, 5).flipOf(31, 2), 2);
    due("flipOf(32, 2)", made(4, 5).flipOf(32, 2), NONE);
  }

  private static void number() {
    edge("promise 14", "The number of the FLIP of a; -5: there is none.");
    FaceFlips x = of(3, 7, 14);
    for (int a = 1; a < 256; a++) due("number(" + a + ")", x.number(a), a == 6 ? 0 : a == 7 ? 1 : a == 14 ? 2 : NOT);
    due("number(7) of none", of(3).number(7), NOT);
    due("number(1), the least a", of(3, 7, 11, 13).number(1), 0);
    due("number(224), the last a", of(3, 7, 224).number(224), 1);
    edge("promise 14", "NONE: no set of POINTS (bits 1 .. 255).");
    for (int a : new int[] {0, 256, 256 + 6, -1, -250, LOW, LOW + 6, BIG}) {
      due("number(" + a + ")", x.number(a), NONE);
      due("number(" + a + ") of none", of(4).number(a), NONE);
    }
  }

  private static void flip() {
    edge("promise 15", "FLIP i is DONE: how many BODIES.");
    due("flip(0), the first", of(3, 7, 14).flip(0), 2);
    due("flip(2), the last", of(3, 7, 14).flip(2), 4);
    due("flip(0), the only one", of(4, 240).flip(0), 4);
    due("flip(31), the last", made(4, 5).flip(31), 17);
    edge("promise 15", "NONE.");
    for (int i : new int[] {-1, 3, 4, LOW, BIG}) {
      FaceFlips x = of(3, 7, 14);
      due("flip(" + i + ")", x.flip(i), NONE);
      has("flip(" + i + ")", x, 7, 14);
    }
    due("flip(0) of none", of(3).flip(0), NONE);
    due("flip(0) where no flip is", full(3).flip(0), NONE);
    due("flip(32)", made(4, 5).flip(32), NONE);
  }

  private static void other() {
    edge("promise 16", "The FLIP of a is DONE in thought: the number its OTHER has then.");
    FaceFlips x = of(3, 7, 14);
    due("other(6)", x.other(6), 0);
    due("other(14)", x.other(14), 2);
    has("in thought", x, 7, 14);
    due("other(1)", of(3, 7, 11, 13).other(1), 0);
    // Behind 224 with point 0 flips are of 1, 97 ..; behind 224 with point 3 they are of 7, 8 ..
    due("other(224)", of(3, 224).other(224), 0);
    due("other(224) of two", of(3, 224, 7).other(224), 1);
    edge("promise 16", "-5 there is no FLIP of a, or none such behind it.");
    for (int a : new int[] {1, 3, 8, 9, 15, 255}) due("other(" + a + ")", x.other(a), NOT);
    due("other(7) of none", of(3).other(7), NOT);
    due("other(4)", of(3, 28, 44, 52).other(4), NOT);
    due("other(4), points 0 and 1 there", of(3, 28, 44, 52, 67).other(4), 0);
    due("other(4), point 0 there", of(3, 28, 44, 52, 193).other(4), NOT);
    edge("promise 16", "NONE: as number().");
    for (int a : new int[] {0, 256, 256 + 6, -1, LOW, LOW + 6, BIG}) due("other(" + a + ")", x.other(a), NONE);
  }

  private static void plan() {
    edge("promise 17", "A PLAN by a LIST: how many FLIPS were DONE (what 0), BODIES then (1), 100 plus EULER then (2).");
    FaceFlips x = tell(of(3, 7, 14, 224), 3, 1, 1, 99);
    // Behind flip 1, of 7 with 16, flip 1 is of 16 with 7.
    int[] want = {2, 3, 102};
    for (int what = 0; what < 3; what++) due("plan(3, " + what + ")", x.plan(3, what), want[what]);
    x.list(3, 0);
    want = new int[] {0, 3, 102};
    for (int what = 0; what < 3; what++) due("plan(3, " + what + ") of no places", x.plan(3, what), want[what]);
    x.make(0);
    x.list(3, 1);
    want = new int[] {0, 0, 100};
    for (int what = 0; what < 3; what++) due("plan(3, " + what + ") of no bodies", x.plan(3, what), want[what]);
    edge("promise 17", "NONE: list, what; NOTHING.");
    for (int l : new int[] {-1, 4, LOW, BIG}) {
      for (int what = -1; what < 4; what++) due("plan(" + l + ", " + what + ")", x.plan(l, what), NONE);
    }
    for (int what : new int[] {-1, 3, LOW, BIG}) {
      due("plan(3, " + what + ")", x.plan(3, what), NONE);
      due("plan(0, " + what + ") of nothing", x.plan(0, what), NONE);
    }
    for (int what = 0; what < 3; what++) due("plan(0, " + what + ")", x.plan(0, what), NOTHING);
  }

  private static void cone() {
    edge("promise 18", "CONE of a POINT: how many BODIES.");
    due("cone(0)", of(3, 224).cone(0), 4);
    due("cone(7)", of(3, 7).cone(7), 4);
    due("cone(7) of 4", of(4, 15).cone(7), 5);
    due("cone(7) of none", of(4).cone(7), 0);
    due("cone(0) of none", of(3).cone(0), 0);
    due("cone(5) of a sphere", made(3, 2).cone(5), 4);
    edge("promise 18", "NONE; STATE: it is THERE.");
    for (int p : new int[] {-1, 8, 31, 32, LOW, BIG}) {
      due("cone(" + p + ")", of(3, 7).cone(p), NONE);
      due("cone(" + p + ") of none", of(3).cone(p), NONE);
      due("cone(" + p + ") of all", full(3).cone(p), NONE);
    }
    for (int p = 0; p < 8; p++) {
      due("cone(" + p + ")", of(3, 7).cone(p), p < 3 ? STATE : 4);
      due("cone(" + p + ") of all", full(3).cone(p), STATE);
    }
  }

  private static void back() {
    edge("promise 19", "THE HEAP is TAKEN BACK: how many BODIES.");
    FaceFlips x = of(4, 15, 30);
    x.make(0);
    due("back()", x.back(), 2);
    has("back()", x, 15, 30);
    due("heap(0)", x.heap(0), 4);
    due("back()", x.back(), 1);
    due("back()", x.back(), 0);
    edge("promise 19", "STATE: there is nothing.");
    due("back()", x.back(), STATE);
    due("heap(0)", x.heap(0), 4);
    due("count(2)", x.count(2), 0);
    due("back() of a new one", new FaceFlips().back(), STATE);
    x.make(1);
    due("back() of one", x.back(), 0);
    due("back() of one more", x.back(), STATE);
  }

  private static void keep() {
    edge("promise 20", "THE HEAP is KEPT: its number.");
    FaceFlips x = of(4);
    due("keep() of none", x.keep(), 0);
    due("kept(0, 1)", x.kept(0, 1), 0);
    x.make(5);
    due("keep()", x.keep(), 1);
    x.make(1);
    due("kept(1, 1) still", x.kept(1, 1), 16);
    due("keep() once more", x.keep(), 2);
    due("keep() of the same", x.keep(), 3);
    edge("promise 20", "FULL.");
    due("keep()", x.keep(), FULL);
    due("count(1)", x.count(1), 4);
    due("kept(3, 1)", x.kept(3, 1), 1);
    x.take(0);
    due("keep() behind take", x.keep(), FULL);
    x.bodies(3);
    due("keep() behind a K", x.keep(), FULL);
    due("undo()", x.undo(), STATE);
    due("keep() behind undo", x.keep(), FULL);
  }

  private static void take() {
    edge("promise 21", "THE HEAP (and K) become a KEPT one: how many BODIES.");
    FaceFlips x = made(4, 5);
    x.keep();
    x.bodies(3);
    x.keep();
    due("take(0)", x.take(0), 16);
    due("heap(0)", x.heap(0), 4);
    due("take(1)", x.take(1), 0);
    due("heap(0)", x.heap(0), 3);
    // What is done then leaves the kept one.
    x.take(0);
    x.body(85);
    due("kept(0, 1)", x.kept(0, 1), 16);
    due("take(0)", x.take(0), 16);
    edge("promise 21", "NONE.");
    for (int i : new int[] {-1, 2, 3, 4, LOW, BIG}) {
      due("take(" + i + ")", x.take(i), NONE);
      due("heap(1)", x.heap(1), 16);
    }
    due("take(0) of none", new FaceFlips().take(0), NONE);
    x.keep();
    x.keep();
    due("take(3) of four", x.take(3), 16);
    due("take(4) of four", x.take(4), NONE);
  }

  private static void kept() {
    edge("promise 22", "Of a KEPT heap K (what 0), how many BODIES (1), 100 plus EULER (2), how many WALLS (3).");
    FaceFlips x = spread();
    x.keep();
    x.bodies(3);
    x.keep();
    x.make(1);
    x.keep();
    x.make(2);
    x.keep();
    int[][] want = {{4, 14, 122, 56}, {3, 0, 100, 0}, {3, 1, 101, 3}, {3, 4, 102, 0}};
    for (int i = 0; i < 4; i++) {
      for (int what = 0; what < 4; what++) due("kept(" + i + ", " + what + ")", x.kept(i, what), want[i][what]);
    }
    edge("promise 22", "NONE.");
    for (int i : new int[] {-1, 4, LOW, BIG}) {
      for (int what = -1; what < 5; what++) due("kept(" + i + ", " + what + ")", x.kept(i, what), NONE);
    }
    for (int what : new int[] {-1, 4, LOW, BIG}) due("kept(3, " + what + ")", x.kept(3, what), NONE);
    for (int what = 0; what < 4; what++) due("kept(0, " + what + ") of none", new FaceFlips().kept(0, what), NONE);
  }

  private static void chain() {
    edge("promise 23", "CHAIN to a KEPT heap by FLIPS of any SORT (least 1), or without those of SORT 1 (2): how many (i"
        + " -1; -5: none), the number of FLIP i of it, as it is then (i 0 on; -5: there are not as many).");
    FaceFlips x = of(3, 7, 14);
    x.keep();
    x.flip(0);
    x.flip(2);
    x.keep();
    x.take(0);
    int[] want = {2, 0, 2, NOT, NOT};
    for (int i = -1; i < 4; i++) due("chain(1, 1, " + i + ")", x.chain(1, 1, i), want[i + 1]);
    for (int i = -1; i < 4; i++) due("chain(1, 2, " + i + ")", x.chain(1, 2, i), NOT);
    want = new int[] {0, NOT, NOT};
    for (int i = -1; i < 2; i++) due("chain(0, 2, " + i + ")", x.chain(0, 2, i), want[i + 1]);
    due("chain(1, 1, BIG)", x.chain(1, 1, BIG), NOT);
    edge("promise 23", "NONE: kept, i below -1; BAD: least; STATE: unlike K.");
    for (int i : new int[] {-1, 2, 3, 4, LOW, BIG}) due("chain(" + i + ", 1, -1)", x.chain(i, 1, -1), NONE);
    for (int i : new int[] {-2, -3, LOW}) due("chain(1, 1, " + i + ")", x.chain(1, 1, i), NONE);
    for (int least : new int[] {0, 3, -1, LOW, BIG}) due("chain(1, " + least + ", -1)", x.chain(1, least, -1), BAD);
    x.bodies(4);
    due("chain(1, 1, -1) of unlike K", x.chain(1, 1, -1), STATE);
    due("chain(1, 2, 9) of unlike K", x.chain(1, 2, 9), STATE);
    due("chain(1, 0, -1) of unlike K", x.chain(1, 0, -1), BAD);
    due("chain(1, 0, -2) of unlike K", x.chain(1, 0, -2), NONE);
    due("chain(0, 1, -1) of none", new FaceFlips().chain(0, 1, -1), NONE);
  }

  private static void two(String call, FaceFlips x, boolean likes) {
    for (int n : new int[] {-1, 2, 3, 4, LOW, BIG}) {
      due(call + "(" + n + ", 0)", likes ? x.alike(n, 0) : x.common(n, 0), NONE);
      due(call + "(1, " + n + ")", likes ? x.alike(1, n) : x.common(1, n), NONE);
      due(call + "(" + n + ", " + n + ")", likes ? x.alike(n, n) : x.common(n, n), NONE);
    }
  }

  private static void alike() {
    edge("promise 24", "Whether two KEPT heaps are ALIKE: 1, 0.");
    FaceFlips x = of(3, 7);
    x.keep();
    x.make(0);
    x.body(224);
    x.keep();
    due("alike(0, 1)", x.alike(0, 1), 1);
    due("alike(1, 1)", x.alike(1, 1), 1);
    edge("promise 24", "NONE.");
    two("alike", x, true);
    due("alike(0, 0) of none", new FaceFlips().alike(0, 0), NONE);
    x.make(2);
    x.keep();
    x.keep();
    due("alike(3, 2)", x.alike(3, 2), 1);
    due("alike(3, 0)", x.alike(3, 0), 0);
    due("alike(3, 4)", x.alike(3, 4), NONE);
  }

  private static void common() {
    edge("promise 25", "COMMON of two KEPT heaps.");
    FaceFlips x = of(3, 7, 224);
    x.keep();
    x.body(7);
    x.keep();
    due("common(0, 1)", x.common(0, 1), 1);
    due("common(0, 0)", x.common(0, 0), 2);
    edge("promise 25", "NONE.");
    two("common", x, false);
    due("common(0, 0) of none", new FaceFlips().common(0, 0), NONE);
    x.keep();
    x.body(224);
    x.keep();
    due("common(3, 2)", x.common(3, 2), 0);
    due("common(2, 0)", x.common(2, 0), 1);
    due("common(4, 2)", x.common(4, 2), NONE);
  }

  private static void fewer() {
    edge("promise 26", "FEWER: how many FLIPS (what 0), BODIES then (1).");
    FaceFlips x = of(3, 11, 13, 14, 224);
    due("fewer(0)", x.fewer(0), 1);
    due("fewer(1)", x.fewer(1), 2);
    due("fewer(0) of none", of(3).fewer(0), 0);
    due("fewer(1) of none", of(3).fewer(1), 0);
    has("in thought", x, 11, 13, 14, 224);
    edge("promise 26", "NONE.");
    for (int what : new int[] {-1, 2, LOW, BIG}) {
      due("fewer(" + what + ")", x.fewer(what), NONE);
      due("fewer(" + what + ") of none", of(3).fewer(what), NONE);
    }
  }

  private static void walk() {
    edge("promise 27", "WALK: BODIES then (what 0), POINTS (1, bits), 100 plus EULER (2).");
    FaceFlips x = of(4, 15);
    int[] want = {4, 31, 101};
    for (int what = 0; what < 3; what++) due("walk(1, BIG, " + what + ")", x.walk(1, BIG, what), want[what]);
    want = new int[] {1, 15, 101};
    for (int what = 0; what < 3; what++) due("walk(0, LOW, " + what + ")", x.walk(0, LOW, what), want[what]);
    due("walk(20, 0, 0)", made(3, 2).walk(20, 0, 2), 102);
    edge("promise 27", "BAD: n; NONE: what.");
    for (int n : new int[] {-1, 21, LOW, BIG}) {
      for (int what = -1; what < 4; what++) due("walk(" + n + ", 7, " + what + ")", x.walk(n, 7, what), BAD);
    }
    for (int what : new int[] {-1, 3, LOW, BIG}) {
      due("walk(0, 7, " + what + ")", x.walk(0, 7, what), NONE);
      due("walk(20, 7, " + what + ")", x.walk(20, 7, what), NONE);
    }
  }

  private static void feed() {
    edge("promise 28", "A sign (0 .. 127) comes behind THE TEXT's: how many it has.");
    FaceFlips x = new FaceFlips();
    due("feed(0)", x.feed(0), 1);
    due("feed(127)", x.feed(127), 2);
    for (int i = 3; i <= 120; i++) due("feed(32)", x.feed(32), i);
    edge("promise 28", "BAD; FULL.");
    due("feed(32)", x.feed(32), FULL);
    due("feed(0)", x.feed(0), FULL);
    due("feed(127)", x.feed(127), FULL);
    for (int sign : new int[] {-1, 128, 255, 256 + 97, LOW, BIG}) {
      due("feed(" + sign + "), full", x.feed(sign), BAD);
      due("feed(" + sign + "), empty", new FaceFlips().feed(sign), BAD);
    }
    due("count(3)", x.count(3), 120);
  }

  private static void read() {
    edge("promise 29", "THE TEXT, which is empty then (by a FAULT, too), is read: how many words were done; -100 less the"
        + " FAULT.");
    FaceFlips x = new FaceFlips();
    due("read() of no text", x.read(), -100);
    due("count(3)", x.count(3), 0);
    due("read()", say(x, "ball flip0"), 2);
    due("count(3)", x.count(3), 0);
    due("read() once more", x.read(), -100);
    due("read() of a FAULT", say(x, "ball flip0 "), -111);
    due("count(3)", x.count(3), 0);
    due("heap(1)", x.heap(1), 3);
    due("read() of none that is done", say(x, "take0"), 0);
    due("read() of twelve", say(x, "row row row row row row row row row row row row"), 12);
    due("read() of the last FAULT there can be", say(x, "body01234567 ".repeat(8) + "row flip0 flip0 "), -220);
    due("count(3)", x.count(3), 0);
    due("feed(98)", x.feed(98), 1);
  }

  private static void spell() {
    edge("promise 30", "SPELLED: how many bytes THE PAPER has.");
    due("spell() of none", of(3).spell(), 0);
    due("spell() of one", of(3, 224).spell(), 3);
    due("spell() of one of 4", of(4, 240).spell(), 4);
    due("spell() of two", of(3, 7, 224).spell(), 7);
    due("spell() of all", full(3).spell(), 223);
    FaceFlips x = full(4);
    due("spell() of all of 4", x.spell(), 349);
    due("count(4)", x.count(4), 349);
    due("spell() once more", x.spell(), 349);
  }

  private static void paper() {
    edge("promise 31", "Byte i of THE PAPER.");
    FaceFlips x = of(4, 15, 240);
    x.spell();
    due("paper(0)", x.paper(0), 48);
    due("paper(4)", x.paper(4), 32);
    due("paper(8)", x.paper(8), 55);
    edge("promise 31", "NONE.");
    for (int i : new int[] {-1, 9, 10, 349, LOW, BIG}) due("paper(" + i + ")", x.paper(i), NONE);
    x.body(240);
    due("paper(8), not spelled anew", x.paper(8), 55);
    x.spell();
    due("paper(3)", x.paper(3), 51);
    due("paper(4)", x.paper(4), NONE);
    due("paper(0) of none", new FaceFlips().paper(0), NONE);
  }

  private static void judge() {
    edge("promise 32", "JUDGED; -5.");
    FaceFlips x = of(3, 7, 224);
    due("judge(0)", tell(x, 0, 7, 224).judge(0), NOT);
    due("judge(3)", tell(x, 3, 7, 224, 7).judge(3), 2);
    due("judge(3)", tell(x, 3, 7).judge(3), 1);
    due("judge(3)", tell(x, 3).judge(3), 0);
    edge("promise 32", "NONE; NOTHING.");
    for (int l : new int[] {-1, 4, LOW, BIG}) due("judge(" + l + ")", x.judge(l), NONE);
    due("judge(1)", x.judge(1), NOTHING);
    due("judge(2)", x.judge(2), NOTHING);
    due("judge(2) of no bodies", of(3).judge(2), NOTHING);
  }

  private static void list() {
    edge("promise 33", "A LIST becomes a row of n ints, all 0: 1.");
    FaceFlips x = new FaceFlips();
    for (int l = 0; l < 4; l++) {
      due("list(" + l + ", 40)", x.list(l, 40), 1);
      x.put(l, 0, 9);
      x.put(l, 39, 9);
    }
    due("list(3, 40)", x.list(3, 40), 1);
    due("get(3, 39)", x.get(3, 39), 0);
    due("get(3, 40)", x.get(3, 40), NO);
    due("list(2, 1)", x.list(2, 1), 1);
    due("list(2, 40)", x.list(2, 40), 1);
    due("get(2, 0)", x.get(2, 0), 0);
    due("get(2, 39)", x.get(2, 39), 0);
    due("list(0, 0)", x.list(0, 0), 1);
    due("get(0, 0)", x.get(0, 0), NO);
    due("get(1, 0), another's", x.get(1, 0), 9);
    due("get(1, 39), another's", x.get(1, 39), 9);
    edge("promise 33", "NONE: list; BAD: n above 40; SIZE.");
    for (int l : new int[] {-1, 4, LOW, BIG}) {
      for (int n : new int[] {-1, 0, 40, 41}) due("list(" + l + ", " + n + ")", x.list(l, n), NONE);
    }
    for (int n : new int[] {41, 42, 256, BIG}) due("list(1, " + n + ")", x.list(1, n), BAD);
    for (int n : new int[] {-1, -2, LOW}) due("list(1, " + n + ")", x.list(1, n), SIZE);
    due("get(1, 39) still", x.get(1, 39), 9);
  }

  private static void put() {
    edge("promise 34", "Place i of a LIST becomes v: 1.");
    FaceFlips x = tell(tell(new FaceFlips(), 0, 1, 2, 3), 3, 4, 5, 6);
    for (int v : new int[] {LOW, -1, 0, BIG}) {
      due("put(0, 0, " + v + ")", x.put(0, 0, v), 1);
      due("put(3, 2, " + v + ")", x.put(3, 2, v), 1);
      due("row 0", rowOf(x, 0), v + " 2 3");
      due("row 3", rowOf(x, 3), "4 5 " + v);
    }
    edge("promise 34", "NONE; NOTHING; PLACE.");
    for (int l : new int[] {-1, 4, LOW, BIG}) {
      for (int i : new int[] {-1, 0, 3}) due("put(" + l + ", " + i + ", 1)", x.put(l, i, 1), NONE);
    }
    for (int i : new int[] {-1, 0, 40}) due("put(1, " + i + ", 1)", x.put(1, i, 1), NOTHING);
    for (int i : new int[] {-1, 3, 40, LOW, BIG}) due("put(0, " + i + ", 1)", x.put(0, i, 1), PLACE);
    x.list(2, 0);
    due("put(2, 0, 1)", x.put(2, 0, 1), PLACE);
    due("put(2, -1, 1)", x.put(2, -1, 1), PLACE);
    due("row 0", rowOf(x, 0), BIG + " 2 3");
  }

  private static void get() {
    edge("promise 35", "Place i of a LIST.");
    FaceFlips x = tell(tell(new FaceFlips(), 0, LOW, -1, BIG), 3);
    due("get(0, 0)", x.get(0, 0), -2147483648L);
    due("get(0, 1)", x.get(0, 1), -1);
    due("get(0, 2)", x.get(0, 2), 2147483647L);
    edge("promise 35", "NO: no such LIST, nothing there, no such place.");
    for (int l : new int[] {-1, 4, LOW, BIG}) due("get(" + l + ", 0)", x.get(l, 0), NO);
    for (int i : new int[] {-1, 0, 39}) due("get(1, " + i + ")", x.get(1, i), NO);
    for (int i : new int[] {-1, 3, 40, LOW, BIG}) due("get(0, " + i + ")", x.get(0, i), NO);
    due("get(3, 0)", x.get(3, 0), NO);
    due("get(3, -1)", x.get(3, -1), NO);
  }

  private static void copies(int want, String row, int i, int j, int n) {
    FaceFlips x = tell(new FaceFlips(), 2, 1, 2, 3, 4, 5);
    due("copy(2, " + i + ", 2, " + j + ", " + n + ")", x.copy(2, i, 2, j, n), want);
    due("row", rowOf(x, 2), row);
  }

  private static void copy() {
    edge("promise 36", "n places of a LIST from i on come to another one (or the same) from j on, as they all were: n.");
    copies(5, "1 2 3 4 5", 0, 0, 5);
    copies(4, "1 1 2 3 4", 0, 1, 4);
    copies(4, "2 3 4 5 5", 1, 0, 4);
    copies(1, "1 2 3 4 1", 0, 4, 1);
    copies(0, "1 2 3 4 5", 0, 0, 0);
    copies(0, "1 2 3 4 5", 5, 0, 0);
    copies(0, "1 2 3 4 5", 0, 5, 0);
    FaceFlips x = tell(tell(new FaceFlips(), 0, 1, 2, 3), 3, 7, 8);
    due("copy(0, 1, 3, 0, 2)", x.copy(0, 1, 3, 0, 2), 2);
    due("row 3", rowOf(x, 3), "2 3");
    due("row 0", rowOf(x, 0), "1 2 3");
    x.list(1, 40);
    x.list(2, 40);
    x.put(1, 0, 5);
    x.put(1, 39, 6);
    due("copy(1, 0, 2, 0, 40)", x.copy(1, 0, 2, 0, 40), 40);
    due("get(2, 0)", x.get(2, 0), 5);
    due("get(2, 39)", x.get(2, 39), 6);
    due("copy(1, 0, 2, 0, 41)", x.copy(1, 0, 2, 0, 41), PLACE);
    x.list(1, 0);
    due("copy(1, 0, 1, 0, 0) of no places", x.copy(1, 0, 1, 0, 0), 0);
    due("copy(1, 0, 1, 0, 1) of no places", x.copy(1, 0, 1, 0, 1), PLACE);
    edge("promise 36", "NONE: lists; NOTHING; PLACE: n, i or j below 0, or beyond either's end.");
    int[][] place = {{0, 0, -1}, {-1, 0, 0}, {0, -1, 0}, {-1, 0, 1}, {0, -1, 1}, {0, 0, 6}, {0, 1, 5}, {1, 0, 5}, {5, 0, 1},
        {0, 5, 1}, {6, 0, 0}, {0, 6, 0}, {LOW, 0, 0}, {0, LOW, 0}, {0, 0, LOW}, {BIG, 0, 1}, {0, BIG, 1}, {0, 0, BIG},
        {1, 0, BIG}, {0, 1, BIG}, {BIG, BIG, BIG}, {LOW, LOW, LOW}, {BIG, 0, 0}, {0, BIG, 0}, {-1, 0, BIG}, {40, 0, 0}};
    for (int[] p : place) copies(PLACE, "1 2 3 4 5", p[0], p[1], p[2]);
    FaceFlips y = tell(new FaceFlips(), 0, 1, 2);
    for (int l : new int[] {-1, 4, LOW, BIG}) {
      due("copy(" + l + ", 0, 0, 0, 1)", y.copy(l, 0, 0, 0, 1), NONE);
      due("copy(0, 0, " + l + ", 0, 1)", y.copy(0, 0, l, 0, 1), NONE);
      due("copy(1, 0, " + l + ", 0, -1)", y.copy(1, 0, l, 0, -1), NONE);
      due("copy(" + l + ", 0, 1, 0, -1)", y.copy(l, 0, 1, 0, -1), NONE);
    }
    due("copy(1, 0, 0, 0, 1)", y.copy(1, 0, 0, 0, 1), NOTHING);
    due("copy(0, 0, 1, 0, 1)", y.copy(0, 0, 1, 0, 1), NOTHING);
    due("copy(0, 9, 1, 9, -1)", y.copy(0, 9, 1, 9, -1), NOTHING);
    due("copy(1, 9, 0, 9, -1)", y.copy(1, 9, 0, 9, -1), NOTHING);
    due("copy(1, 0, 1, 0, 0)", y.copy(1, 0, 1, 0, 0), NOTHING);
  }

  private static void image() {
    edge("promise 37", "THE IMAGE is taken: how many BODIES.");
    FaceFlips x = new FaceFlips();
    due("image() of none", x.image(), 0);
    x.make(2);
    due("undo() to none", x.undo(), 0);
    x.make(2);
    due("image()", x.image(), 4);
    due("count(2)", x.count(2), 1);
    x.make(1);
    due("image() anew", x.image(), 1);
    x.make(2);
    due("undo() to the later one", x.undo(), 1);
    due("image() of all", full(4).image(), 70);
  }

  private static void undo() {
    edge("promise 38", "All is as THE IMAGE: how many BODIES.");
    FaceFlips x = made(4, 5);
    x.keep();
    x.image();
    due("undo() at once", x.undo(), 16);
    x.bodies(3);
    x.keep();
    x.keep();
    x.keep();
    due("keep()", x.keep(), FULL);
    due("undo()", x.undo(), 16);
    due("heap(0)", x.heap(0), 4);
    due("count(1)", x.count(1), 1);
    // What is done behind it is not THE IMAGE, which stays.
    x.make(1);
    due("keep() anew", x.keep(), 1);
    due("kept(1, 1)", x.kept(1, 1), 1);
    due("undo() once more", x.undo(), 16);
    due("kept(1, 1)", x.kept(1, 1), NONE);
    due("kept(0, 1)", x.kept(0, 1), 16);
    edge("promise 38", "STATE: there is none.");
    x = made(3, 2);
    due("undo()", x.undo(), STATE);
    has("undo()", x, 7, 11, 13, 14);
    due("count(2)", x.count(2), 1);
    x.image();
    due("undo()", x.undo(), 4);
  }

  private static void count() {
    edge("promise 39", "How many: 0 BODIES, 1 KEPT heaps, 2 that can be TAKEN BACK, 3 bytes of THE TEXT, 4 of THE PAPER.");
    FaceFlips x = full(4);
    for (int i = 0; i < 4; i++) x.keep();
    for (int i = 0; i < 120; i++) x.feed(32);
    x.spell();
    int[] full = {70, 4, 8, 120, 349};
    for (int what = 0; what < 5; what++) {
      due("count(" + what + "), full", x.count(what), full[what]);
      due("count(" + what + "), empty", new FaceFlips().count(what), 0);
    }
    edge("promise 39", "BAD.");
    for (int what : new int[] {-1, 5, LOW, BIG}) {
      due("count(" + what + ")", x.count(what), BAD);
      due("count(" + what + ") of a new one", new FaceFlips().count(what), BAD);
    }
  }
}
