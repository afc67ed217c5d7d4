/** Each promise of the document by answers worked out by hand: ordinary inputs, edges, wrong inputs. */
public final class FaceFlipsPromises {
  private static final int NONE = -1, BAD = -2, STATE = -3, FULL = -4, NOT = -5, NOTHING = -11, PLACE = -13, SIZE = -14;
  private static final int BIG = Integer.MAX_VALUE, LOW = Integer.MIN_VALUE;
  private static int wrong = 0;
  private static int all = 0;
  private static int promise = 0;

  private static void due(String call, long got, long want) {
    all++;
    if (got != want) {
      wrong++;
      System.out.println("promise " + promise + ": " + call + " answered " + got + ", due is " + want);
    }
  }

  public static void main(String[] args) {
    constants();
    newObject();
    bodies();
    make();
    body();
    bodyOf();
    heap();
    faces();
    face();
    wall();
    apart();
    shelled();
    flips();
    flipsByHand();
    flipOf();
    number();
    flip();
    other();
    plan();
    cone();
    back();
    keep();
    take();
    kept();
    chain();
    alike();
    common();
    fewer();
    walk();
    feed();
    read();
    faults();
    spell();
    paper();
    judge();
    list();
    put();
    get();
    copy();
    image();
    undo();
    count();
    System.out.println(wrong == 0 ? "all " + all + " answers are as due" : wrong + " answers are not as due");
    if (wrong != 0) System.exit(1);
  }

  // ---- what the tests share

  private static FaceFlips of(int k, int... sets) {
    FaceFlips x = new FaceFlips();
    x.bodies(k);
    for (int s : sets) x.body(s);
    return x;
  }

  private static FaceFlips made(int k, int kind) {
    FaceFlips x = of(k);
    x.make(kind);
    return x;
  }

  private static void tell(FaceFlips x, int list, int... values) {
    x.list(list, values.length);
    for (int i = 0; i < values.length; i++) x.put(list, i, values[i]);
  }

  private static int say(FaceFlips x, String text) {
    for (int i = 0; i < text.length(); i++) x.feed(text.charAt(i));
    return x.read();
  }

  private static void hasBodies(String what, FaceFlips x, int... sets) {
    due(what + ": count(0)", x.count(0), sets.length);
    for (int i = 0; i < sets.length; i++) due(what + ": bodyOf(" + i + ")", x.bodyOf(i), sets[i]);
    due(what + ": bodyOf(" + sets.length + ")", x.bodyOf(sets.length), NOT);
  }

  private static void counts(String what, FaceFlips x, int bodies, int kept, int back, int text, int paper) {
    int[] want = {bodies, kept, back, text, paper};
    for (int i = 0; i < 5; i++) due(what + ": count(" + i + ")", x.count(i), want[i]);
  }

  private static String paperOf(FaceFlips x) {
    StringBuilder b = new StringBuilder();
    for (int i = 0; i < x.count(4); i++) b.append((char) x.paper(i));
    return b.toString();
  }

  // Six points, each two of them an edge: the least surface that has one side and no wall.
  private static final int[] ONE_SIDED = {7, 13, 25, 49, 35, 22, 44, 26, 52, 42};
  // Five triangles in a ring that is turned once.
  private static final int[] TURNED = {7, 14, 28, 25, 19};

  // ---- the promises

  private static void constants() {
    due("NONE", FaceFlips.NONE, -1);
    due("BAD", FaceFlips.BAD, -2);
    due("STATE", FaceFlips.STATE, -3);
    due("FULL", FaceFlips.FULL, -4);
    due("NOT", FaceFlips.NOT, -5);
    due("NO", FaceFlips.NO, Long.MIN_VALUE);
  }

  private static void newObject() {
    promise = 1;
    FaceFlips x = new FaceFlips();
    int[] heap = {3, 0, 0, 0, 1, 100, 0, 1};
    for (int what = 0; what < 8; what++) due("heap(" + what + ")", x.heap(what), heap[what]);
    counts("new", x, 0, 0, 0, 0, 0);
    due("back()", x.back(), STATE);
    due("undo()", x.undo(), STATE);
    due("take(0)", x.take(0), NONE);
    due("paper(0)", x.paper(0), NONE);
    for (int l = 0; l < 4; l++) due("judge(" + l + ")", x.judge(l), NOTHING);
    FaceFlips other = new FaceFlips();
    other.make(2);
    due("another one's bodies", x.heap(1), 0);
  }

  private static void bodies() {
    promise = 2;
    FaceFlips x = new FaceFlips();
    due("bodies(4)", x.bodies(4), 3);
    due("heap(0)", x.heap(0), 4);
    due("bodies(4)", x.bodies(4), 4);
    x.make(1);
    for (int k : new int[] {2, 5, 0, -3, LOW, BIG}) due("bodies(" + k + ")", x.bodies(k), BAD);
    due("heap(0) after BAD", x.heap(0), 4);
    counts("after BAD", x, 1, 0, 1, 0, 0);
    due("bodies(4)", x.bodies(4), 4);
    counts("K told", x, 0, 0, 0, 0, 0);
    due("back()", x.back(), STATE);
    due("bodies(3)", x.bodies(3), 4);
    due("heap(0)", x.heap(0), 3);
    due("faces(1)", x.faces(1), 0);
  }

  private static void make() {
    promise = 3;
    FaceFlips x = made(3, 1);
    hasBodies("BALL 3", x, 7);
    x.make(2);
    hasBodies("SPHERE 3", x, 7, 11, 13, 14);
    x.make(3);
    hasBodies("ROW 3", x, 7, 14, 28, 56, 112, 224);
    x.make(4);
    hasBodies("ROUND 3", x, 7, 14, 28, 56, 112, 131, 193, 224);
    x.make(5);
    hasBodies("CROSS 3", x, 21, 22, 25, 26, 37, 38, 41, 42);
    due("make(0)", x.make(0), 0);
    hasBodies("NOTHING 3", x);
    int[] many = {0, 1, 5, 5, 8, 16};
    x = of(4);
    for (int kind = 0; kind < 6; kind++) due("make(" + kind + ") of 4", x.make(kind), many[kind]);
    hasBodies("CROSS 4", x, 85, 86, 89, 90, 101, 102, 105, 106, 149, 150, 153, 154, 165, 166, 169, 170);
    for (int kind : new int[] {-1, 6, LOW, BIG}) due("make(" + kind + ")", x.make(kind), NONE);
    counts("after NONE", x, 16, 0, 6, 0, 0);
    x.make(1);
    hasBodies("BALL 4", x, 15);
    x.make(2);
    hasBodies("SPHERE 4", x, 15, 23, 27, 29, 30);
    x.make(3);
    hasBodies("ROW 4", x, 15, 30, 60, 120, 240);
    x.make(4);
    hasBodies("ROUND 4", x, 15, 30, 60, 120, 135, 195, 225, 240);
  }

  private static void body() {
    promise = 4;
    FaceFlips x = new FaceFlips();
    due("body(224)", x.body(224), 1);
    due("body(7)", x.body(7), 2);
    hasBodies("two", x, 7, 224);
    due("body(224) once more", x.body(224), 1);
    hasBodies("one", x, 7);
    for (int s : new int[] {0, 1, 3, 15, 255, 256, 259, 512 + 7, -1, -7, LOW, BIG, LOW + 3}) {
      due("body(" + s + ")", x.body(s), NONE);
    }
    counts("after NONE", x, 1, 0, 3, 0, 0);
    x = of(4);
    due("body(15)", x.body(15), 1);
    due("body(7) of 4", x.body(7), NONE);
    due("body(240)", x.body(240), 2);
    due("body(15)", x.body(15), 1);
    x = of(3);
    int n = 0;
    for (int s = 0; s < 256; s++) if (Integer.bitCount(s) == 3) due("body(" + s + ")", x.body(s), ++n);
    due("all", n, 56);
  }

  private static void bodyOf() {
    promise = 5;
    FaceFlips x = of(3, 56, 7, 41);
    hasBodies("three", x, 7, 41, 56);
    due("bodyOf(-1)", x.bodyOf(-1), NONE);
    due("bodyOf(LOW)", x.bodyOf(LOW), NONE);
    due("bodyOf(BIG)", x.bodyOf(BIG), NOT);
    due("bodyOf(0) of none", new FaceFlips().bodyOf(0), NOT);
  }

  private static void isHeap(String what, FaceFlips x, int... want) {
    for (int i = 0; i < want.length; i++) due(what + ": heap(" + i + ")", x.heap(i), want[i]);
  }

  private static void heap() {
    promise = 6;
    isHeap("ball 3", made(3, 1), 3, 1, 7, 3, 1, 101, 1, 1);
    isHeap("ball 4", made(4, 1), 4, 1, 15, 4, 1, 101, 1, 1);
    isHeap("sphere 3", made(3, 2), 3, 4, 15, 0, 1, 102, 1, 1);
    isHeap("sphere 4", made(4, 2), 4, 5, 31, 0, 1, 100, 1, 1);
    isHeap("row 3", made(3, 3), 3, 6, 255, 8, 1, 101, 1, 1);
    isHeap("round 3", made(3, 4), 3, 8, 255, 8, 1, 100, 1, 1);
    isHeap("cross 3", made(3, 5), 3, 8, 63, 0, 1, 102, 1, 1);
    isHeap("cross 4", made(4, 5), 4, 16, 255, 0, 1, 100, 1, 1);
    isHeap("turned ring", of(3, TURNED), 3, 5, 31, 5, 1, 100, 1, 0);
    isHeap("one-sided", of(3, ONE_SIDED), 3, 10, 63, 0, 1, 101, 1, 0);
    // Three triangles on one edge: each two are to be of unlike signs.
    isHeap("book", of(3, 7, 11, 19), 3, 3, 31, 6, 0, 101, 1, 0);
    // Two triangles that share a point, two that share none, a third beside one.
    isHeap("point", of(3, 7, 28), 3, 2, 31, 6, 1, 101, 2, 1);
    isHeap("apart", of(3, 7, 56), 3, 2, 63, 6, 1, 102, 2, 1);
    isHeap("parts", of(3, 7, 14, 112), 3, 3, 127, 7, 1, 102, 2, 1);
    isHeap("four on a side", of(4, 15, 23, 39), 4, 3, 63, 9, 0, 101, 1, 0);
    isHeap("sharing an edge", of(4, 15, 51), 4, 2, 63, 8, 1, 101, 2, 1);
    FaceFlips x = made(3, 2);
    for (int what : new int[] {-1, 8, LOW, BIG}) due("heap(" + what + ")", x.heap(what), NONE);
    // All triangles, all bodies of four: 8 - 28 + 56, 8 - 28 + 56 - 70.
    for (int k = 3; k < 5; k++) {
      x = of(k);
      for (int s = 0; s < 256; s++) if (Integer.bitCount(s) == k) x.body(s);
      isHeap("all", x, k, k == 3 ? 56 : 70, 255, 0, 0, k == 3 ? 136 : 66, 1, 0);
    }
  }

  private static void faces() {
    promise = 7;
    int[][] want = {{3, 1, 3, 3, 1, 0}, {4, 1, 4, 6, 4, 1}, {3, 2, 4, 6, 4, 0}, {4, 5, 8, 24, 32, 16}, {3, 3, 8, 13, 6, 0}};
    for (int[] w : want) {
      FaceFlips x = made(w[0], w[1]);
      for (int j = 1; j < 5; j++) due("faces(" + j + ") of kind " + w[1], x.faces(j), w[1 + j]);
      for (int j : new int[] {0, 5, -1, LOW, BIG}) due("faces(" + j + ")", x.faces(j), BAD);
    }
  }

  private static void face() {
    promise = 8;
    FaceFlips x = made(3, 2);
    int[][] want = {{1, 1, 3, 7, 14}, {3, 1, 2, 3, 12}, {7, 1, 1, 1, 0}, {16, 0, 0, 0, 0}, {15, 0, 0, 0, 0}, {255, 0, 0, 0, 0},
        {19, 0, 0, 0, 0}};
    for (int[] w : want) {
      for (int what = 0; what < 4; what++) due("face(" + w[0] + ", " + what + ")", x.face(w[0], what), w[1 + what]);
    }
    for (int s : new int[] {0, 256, -1, LOW, BIG}) {
      for (int what = -1; what < 5; what++) due("face(" + s + ", " + what + ")", x.face(s, what), NONE);
    }
    for (int what : new int[] {-1, 4, LOW, BIG}) {
      due("face(1, " + what + ")", x.face(1, what), NONE);
      due("face(128, " + what + ")", x.face(128, what), NONE);
    }
    x = of(4, 15, 30);
    int[][] four = {{6, 1, 2, 6, 25}, {14, 1, 2, 3, 17}, {1, 1, 1, 8, 14}, {17, 0, 0, 0, 0}, {2, 1, 2, 12, 29}, {30, 1, 1, 1, 0}};
    for (int[] w : four) {
      for (int what = 0; what < 4; what++) due("face(" + w[0] + ", " + what + ") of 4", x.face(w[0], what), w[1 + what]);
    }
  }

  private static void walls(String what, FaceFlips x, int... sets) {
    for (int i = 0; i < sets.length; i++) due(what + ": wall(" + i + ")", x.wall(i), sets[i]);
    due(what + ": wall(" + sets.length + ")", x.wall(sets.length), NOT);
  }

  private static void wall() {
    promise = 9;
    walls("ball 3", made(3, 1), 3, 5, 6);
    walls("ball 4", made(4, 1), 7, 11, 13, 14);
    walls("sphere", made(3, 2));
    walls("two", of(3, 7, 14), 3, 5, 10, 12);
    walls("book", of(3, 7, 11, 19), 5, 6, 9, 10, 17, 18);
    walls("none", of(3));
    FaceFlips x = made(3, 1);
    due("wall(-1)", x.wall(-1), NONE);
    due("wall(LOW)", x.wall(LOW), NONE);
    due("wall(BIG)", x.wall(BIG), NOT);
  }

  private static void apart() {
    promise = 10;
    FaceFlips x = made(3, 4);
    // Behind one another: 7, 14, 28, 56, 112, 224, 193, 131.
    int[] place = {0, 1, 2, 3, 4, 7, 6, 5};
    for (int one = 0; one < 8; one++) {
      for (int other = 0; other < 8; other++) {
        int d = Math.abs(place[one] - place[other]);
        due("apart(" + one + ", " + other + ")", x.apart(one, other), Math.min(d, 8 - d));
      }
    }
    int[][] none = {{-1, 0}, {0, -1}, {8, 0}, {0, 8}, {LOW, BIG}, {BIG, 1}};
    for (int[] n : none) due("apart(" + n[0] + ", " + n[1] + ")", x.apart(n[0], n[1]), NONE);
    x = of(3, 7, 28, 56);
    due("apart(0, 1) at a point", x.apart(0, 1), NOT);
    due("apart(1, 2)", x.apart(1, 2), 1);
    due("apart(0, 0)", x.apart(0, 0), 0);
    due("apart(0, 0) of none", of(3).apart(0, 0), NONE);
    x = of(4, 15, 51, 60);
    due("apart(0, 1) at an edge", x.apart(0, 1), NOT);
    x = of(4);
    for (int s = 0; s < 256; s++) if (Integer.bitCount(s) == 4) x.body(s);
    due("apart(0, 69) of all", x.apart(0, 69), 4);
    due("apart(69, 69) of all", x.apart(69, 69), 0);
    due("apart(69, 68) of all", x.apart(69, 68), 1);
    due("apart(70, 0) of all", x.apart(70, 0), NONE);
  }

  private static void shells(FaceFlips x, int want, int... told) {
    tell(x, 3, told);
    due("shelled() of " + java.util.Arrays.toString(told), x.shelled(3), want);
  }

  private static void shelled() {
    promise = 11;
    FaceFlips x = made(3, 3);
    due("shelled(0)", x.shelled(0), NOTHING);
    for (int l : new int[] {-1, 4, LOW, BIG}) due("shelled(" + l + ")", x.shelled(l), NONE);
    shells(x, NOT);
    shells(x, NOT, 0);
    shells(x, NOT, 5);
    shells(x, NOT, 0, 1, 2, 3, 4, 5);
    shells(x, NOT, 3, 2, 4, 1, 5, 0);
    shells(x, 1, 0, 2);
    shells(x, 1, 0, 3);
    shells(x, 2, 0, 1, 3, 2);
    shells(x, 0, 6);
    shells(x, 0, -1);
    shells(x, 1, 0, 6);
    shells(x, 1, 0, LOW);
    shells(x, 1, 0, BIG);
    shells(x, 2, 0, 1, 1);
    shells(x, 2, 0, 1, 0);
    // The last one has an edge in common with one, and a point beside that edge with another.
    x = of(3, 7, 14, 44, 41);
    shells(x, 3, 0, 1, 3, 2);
    shells(x, NOT, 0, 1, 3);
    shells(made(3, 2), NOT, 0, 1, 2, 3);
    shells(made(3, 2), NOT, 3, 1, 0, 2);
    shells(made(4, 2), NOT, 4, 3, 2, 1, 0);
    shells(of(4, 15, 51), 1, 0, 1);
    shells(of(3), 0, 0);
    shells(of(3), NOT);
  }

  private static void flips() {
    promise = 12;
    FaceFlips x = made(3, 1);
    int[] ball = {1, 1, 0, 0};
    for (int s = 0; s < 4; s++) due("flips(" + s + ")", x.flips(s), ball[s]);
    for (int s : new int[] {-1, 4, 5, LOW, BIG}) due("flips(" + s + ")", x.flips(s), BAD);
    x = of(4);
    for (int s = 0; s < 5; s++) due("flips(" + s + ") of none", x.flips(s), 0);
    due("flips(5)", x.flips(5), BAD);
    // Two triangles on an edge, and the two other points no edge: one flip of sort 2, and one of each triangle.
    x = of(3, 7, 14);
    int[] two = {3, 2, 1, 0};
    for (int s = 0; s < 4; s++) due("flips(" + s + ") of two", x.flips(s), two[s]);
    // All points are there: none of sort 1.
    x = made(3, 3);
    int[] row = {5, 0, 5, 0};
    for (int s = 0; s < 4; s++) due("flips(" + s + ") of the row", x.flips(s), row[s]);
    x = made(4, 5);
    int[] cross = {32, 0, 32, 0, 0};
    for (int s = 0; s < 5; s++) due("flips(" + s + ") of the cross", x.flips(s), cross[s]);
    // A point in three triangles, as a cone stands on it: taken out by sort 3.
    x = of(3, 11, 13, 14);
    int[] star = {4, 3, 0, 1};
    for (int s = 0; s < 4; s++) due("flips(" + s + ") of the star", x.flips(s), star[s]);
    // The same with the bottom closed: no flip of its top, nor of another point.
    due("flips(3) of the sphere", made(3, 2).flips(3), 0);
    // Three bodies of four on an edge.
    x = of(4, 15 + 16 - 4, 15 + 16 - 8, 15 + 16 - 16);
    int[] three = {4, 3, 0, 1, 0};
    for (int s = 0; s < 5; s++) due("flips(" + s + ") of three", x.flips(s), three[s]);
    x = of(4, 30, 29, 27, 23);
    int[] four = {5, 4, 0, 0, 1};
    for (int s = 0; s < 5; s++) due("flips(" + s + ") of four", x.flips(s), four[s]);
  }

  private static void flipsByHand() {
    // What is to be as told: one thing at a time is otherwise.
    due("two and their other points an edge", of(3, 7, 14, 1 + 8 + 16).flips(2), 0);
    due("two, the other points no edge", of(3, 7, 14, 1 + 16 + 32).flips(2), 1);
    due("a third on the edge", of(3, 7, 14, 6 + 16).flips(2), 0);
    due("a star and its bottom", of(3, 11, 13, 14, 7).flips(3), 0);
    due("a star and something more at its top", of(3, 11, 13, 14, 8 + 16 + 32).flips(3), 0);
    due("a star and something more at its foot", of(3, 11, 13, 14, 1 + 16 + 32).flips(3), 1);
    due("three on an edge, and the triangle between a face", of(4, 27, 23, 15, 4 + 8 + 16 + 32).flips(3), 0);
    due("three on an edge, and only an edge of it a face", of(4, 27, 23, 15, 4 + 8 + 64 + 32).flips(3), 1);
    due("two on a triangle", of(4, 15, 30).flips(2), 1);
    due("two on a triangle, the other points an edge", of(4, 15, 30, 1 + 16 + 32 + 64).flips(2), 0);
  }

  private static void isFlip(FaceFlips x, int i, int a, int b, int sort) {
    int[] want = {a, b, sort};
    for (int what = 0; what < 3; what++) due("flipOf(" + i + ", " + what + ")", x.flipOf(i, what), want[what]);
  }

  private static void flipOf() {
    promise = 13;
    FaceFlips x = of(3, 7, 14);
    isFlip(x, 0, 6, 9, 2);
    isFlip(x, 1, 7, 16, 1);
    isFlip(x, 2, 14, 16, 1);
    int[][] none = {{3, 0}, {-1, 0}, {LOW, 1}, {BIG, 2}, {0, 3}, {0, -1}, {3, 3}};
    for (int[] n : none) due("flipOf(" + n[0] + ", " + n[1] + ")", x.flipOf(n[0], n[1]), NONE);
    x = of(3, 11, 13, 14);
    isFlip(x, 0, 8, 7, 3);
    isFlip(x, 1, 11, 16, 1);
    // The least point that isn't there is told also where it is below the body's.
    x = of(3, 28);
    isFlip(x, 0, 28, 1, 1);
    x = of(3, 25);
    isFlip(x, 0, 25, 2, 1);
    x = of(4, 30, 29, 27, 23);
    isFlip(x, 0, 16, 15, 4);
    isFlip(x, 4, 30, 32, 1);
    x = of(4, 27, 23, 15);
    isFlip(x, 0, 3, 28, 3);
    x = of(3, 7, 11, 13);
    isFlip(x, 0, 1, 14, 3);
    due("number(1)", x.number(1), 0);
    due("number(7)", x.number(7), 1);
    due("other(1)", x.other(1), 0);
    due("fewer(1)", x.fewer(1), 1);
    due("flipOf(0, 0) of none", of(3).flipOf(0, 0), NONE);
  }

  private static void number() {
    promise = 14;
    FaceFlips x = of(3, 7, 14);
    due("number(6)", x.number(6), 0);
    due("number(7)", x.number(7), 1);
    due("number(14)", x.number(14), 2);
    for (int a : new int[] {1, 3, 9, 15, 16, 11, 255}) due("number(" + a + ")", x.number(a), NOT);
    for (int a : new int[] {0, -1, 256, 256 + 6, LOW, BIG}) due("number(" + a + ")", x.number(a), NONE);
    due("number(7) of none", of(3).number(7), NOT);
  }

  private static void flip() {
    promise = 15;
    FaceFlips x = of(3, 7, 14);
    due("flip(0)", x.flip(0), 2);
    hasBodies("2 for 2", x, 11, 13);
    due("flip(0)", x.flip(0), 2);
    hasBodies("2 for 2 and back", x, 7, 14);
    due("flip(2)", x.flip(2), 4);
    hasBodies("3 for 1", x, 7, 22, 26, 28);
    for (int i : new int[] {-1, x.flips(0), LOW, BIG}) due("flip(" + i + ")", x.flip(i), NONE);
    due("count(2)", x.count(2), 5);
    // Flips are then of 6, 7, 16 and of the three that came.
    due("number(16)", x.number(16), 2);
    due("flip of point 4", x.flip(x.number(16)), 2);
    hasBodies("1 for 3", x, 7, 14);
    x = of(4, 15, 30);
    due("flip(0)", x.flip(0), 3);
    hasBodies("3 for 2", x, 23, 27, 29);
    due("flip(0)", x.flip(0), 2);
    hasBodies("2 for 3", x, 15, 30);
    x = made(4, 1);
    due("flip(0)", x.flip(0), 4);
    hasBodies("4 for 1", x, 23, 27, 29, 30);
    due("flip(0)", x.flip(0), 1);
    hasBodies("1 for 4", x, 15);
    due("flip(0) of none", of(3).flip(0), NONE);
  }

  private static void other() {
    promise = 16;
    FaceFlips x = of(3, 7, 14);
    due("other(6)", x.other(6), 0);
    // Of 7 with 16: flips are then of 6, 14, 16, ..; of 14 with 16: of 6, 7, 16, ..
    due("other(7)", x.other(7), 2);
    due("other(14)", x.other(14), 2);
    due("other(3)", x.other(3), NOT);
    for (int a : new int[] {0, -1, 256, LOW, BIG}) due("other(" + a + ")", x.other(a), NONE);
    hasBodies("in thought", x, 7, 14);
    due("count(2)", x.count(2), 2);
    // Point 2 goes; of the triangle that comes the flip is with point 0 then.
    x = of(3, 28, 44, 52);
    due("number(4)", x.number(4), 0);
    due("other(4)", x.other(4), NOT);
    // With points 0 and 1 there it is with point 2 once more.
    x = of(3, 28, 44, 52, 1 + 2 + 64);
    due("other(4)", x.other(4), 0);
    due("other of an edge for an edge", made(3, 3).other(6), 0);
    x = made(4, 1);
    due("other(15)", x.other(15), 0);
  }

  private static void plan() {
    promise = 17;
    FaceFlips x = of(3, 7, 14);
    due("plan(0, 0)", x.plan(0, 0), NOTHING);
    tell(x, 0, 1, 0, 99, 0);
    // 3 for 1 of triangle 7: 14, 19, 21, 22; its first flip then is of edge 6 (with 24).
    due("plan(0, 0)", x.plan(0, 0), 2);
    due("plan(0, 1)", x.plan(0, 1), 4);
    due("plan(0, 2)", x.plan(0, 2), 101);
    tell(x, 0, -1);
    due("plan(0, 0) of -1", x.plan(0, 0), 0);
    due("plan(0, 1) of -1", x.plan(0, 1), 2);
    tell(x, 0, 3);
    due("plan(0, 0) of 3", x.plan(0, 0), 0);
    tell(x, 0);
    due("plan(0, 0) of an empty list", x.plan(0, 0), 0);
    due("plan(0, 2) of an empty list", x.plan(0, 2), 101);
    int[][] none = {{-1, 0}, {4, 0}, {0, 3}, {0, -1}, {1, 3}, {LOW, 0}, {0, BIG}};
    for (int[] n : none) due("plan(" + n[0] + ", " + n[1] + ")", x.plan(n[0], n[1]), NONE);
    due("plan(1, 2)", x.plan(1, 2), NOTHING);
    hasBodies("in thought", x, 7, 14);
    x = made(3, 2);
    x.list(2, 40);
    // A sphere: point 4 comes, then it or point 5 goes or comes, and so on: the first flip each time.
    due("plan(2, 0)", x.plan(2, 0), 40);
    due("plan(2, 2)", x.plan(2, 2), 102);
  }

  private static void cone() {
    promise = 18;
    FaceFlips x = made(3, 1);
    due("cone(5)", x.cone(5), 4);
    hasBodies("cone on a ball", x, 7, 35, 37, 38);
    due("cone(5)", x.cone(5), STATE);
    due("cone(0)", x.cone(0), STATE);
    for (int p : new int[] {-1, 8, LOW, BIG}) due("cone(" + p + ")", x.cone(p), NONE);
    counts("so far", x, 4, 0, 2, 0, 0);
    due("cone(6) on no walls", x.cone(6), 4);
    due("count(2)", x.count(2), 3);
    due("cone(0) on none", of(3).cone(0), 0);
    x = of(4, 15);
    due("cone(4)", x.cone(4), 5);
    hasBodies("cone on a ball of 4", x, 15, 23, 27, 29, 30);
    x = of(3, 7, 11, 19);
    due("cone(7) on a book", x.cone(7), 9);
    due("heap(5)", x.heap(5), 6 - 12 + 9 + 100);
  }

  private static void back() {
    promise = 19;
    FaceFlips x = new FaceFlips();
    due("back()", x.back(), STATE);
    x.body(7);
    x.make(2);
    x.flip(0);
    x.cone(7);
    due("count(2)", x.count(2), 4);
    due("back() over cone", x.back(), 6);
    due("back() over flip", x.back(), 4);
    due("back() over make", x.back(), 1);
    due("back() over body", x.back(), 0);
    due("back()", x.back(), STATE);
    for (int i = 1; i <= 10; i++) x.make(i % 2 == 0 ? 1 : 2);
    due("count(2)", x.count(2), 8);
    for (int i = 9; i >= 2; i--) due("back() to " + i, x.back(), i % 2 == 0 ? 1 : 4);
    due("back() once more", x.back(), STATE);
    due("bodies then", x.heap(1), 1);
    // Taken back and stepped on: what is older than the last 8 is gone all the same.
    for (int i = 0; i < 8; i++) x.make(2);
    x.back();
    x.back();
    for (int i = 0; i < 4; i++) x.make(3);
    due("count(2)", x.count(2), 8);
    for (int i = 0; i < 8; i++) due("back() " + i, x.back(), i < 3 ? 6 : 4);
    due("back() once more", x.back(), STATE);
    x.make(1);
    x.make(7);
    x.body(3);
    x.flip(9);
    x.cone(0);
    due("what is refused counts not", x.count(2), 1);
    due("back()", x.back(), 4);
    // What leaves none.
    x.make(1);
    x.keep();
    x.take(7);
    x.bodies(7);
    x.undo();
    say(x, "ball ");
    due("refused ones leave them", x.count(2), 1);
    due("take(0)", x.take(0), 1);
    due("back() after take", x.back(), STATE);
    x.make(1);
    x.image();
    x.keep();
    due("image, keep leave them", x.count(2), 1);
    due("undo()", x.undo(), 1);
    due("back() after undo", x.back(), STATE);
    x.make(1);
    due("words", say(x, "flip99"), 0);
    due("back() after words", x.back(), STATE);
    x.make(1);
    x.bodies(3);
    due("back() after a K", x.back(), STATE);
  }

  private static void keep() {
    promise = 20;
    FaceFlips x = new FaceFlips();
    for (int i = 0; i < 4; i++) {
      x.make(i);
      due("keep()", x.keep(), i);
    }
    due("keep()", x.keep(), FULL);
    due("count(1)", x.count(1), 4);
    int[] many = {0, 1, 4, 6};
    for (int i = 0; i < 4; i++) due("kept(" + i + ", 1)", x.kept(i, 1), many[i]);
    x.make(5);
    due("kept(3, 1)", x.kept(3, 1), 6);
    due("bodies", x.heap(1), 8);
  }

  private static void take() {
    promise = 21;
    FaceFlips x = made(4, 2);
    x.keep();
    x.bodies(3);
    x.make(1);
    x.keep();
    due("take(0)", x.take(0), 5);
    hasBodies("taken", x, 15, 23, 27, 29, 30);
    due("heap(0)", x.heap(0), 4);
    x.flip(0);
    due("kept(0, 1)", x.kept(0, 1), 5);
    for (int i : new int[] {-1, 2, 3, 4, LOW, BIG}) due("take(" + i + ")", x.take(i), NONE);
    due("count(2)", x.count(2), 1);
    due("take(1)", x.take(1), 1);
    due("heap(0)", x.heap(0), 3);
    due("count(2)", x.count(2), 0);
    due("count(1)", x.count(1), 2);
  }

  private static void kept() {
    promise = 22;
    FaceFlips x = of(3, TURNED);
    x.keep();
    x.bodies(4);
    x.make(1);
    x.keep();
    int[][] want = {{3, 5, 100, 5}, {4, 1, 101, 4}};
    for (int i = 0; i < 2; i++) {
      for (int what = 0; what < 4; what++) due("kept(" + i + ", " + what + ")", x.kept(i, what), want[i][what]);
    }
    int[][] none = {{-1, 0}, {2, 0}, {0, -1}, {0, 4}, {LOW, 0}, {BIG, 0}, {0, BIG}};
    for (int[] n : none) due("kept(" + n[0] + ", " + n[1] + ")", x.kept(n[0], n[1]), NONE);
  }

  private static void chains(FaceFlips x, int kept, int least, int... path) {
    String call = "chain(" + kept + ", " + least + ", ";
    due(call + "-1)", x.chain(kept, least, -1), path.length);
    for (int i = 0; i < path.length; i++) due(call + i + ")", x.chain(kept, least, i), path[i]);
    due(call + path.length + ")", x.chain(kept, least, path.length), NOT);
    due(call + "BIG)", x.chain(kept, least, BIG), NOT);
  }

  private static void chain() {
    promise = 23;
    FaceFlips x = made(3, 1);
    x.keep();
    chains(x, 0, 1);
    x.flip(0);
    x.keep();
    x.flip(1);
    x.keep();
    x.flip(x.flips(0) - 1);
    x.keep();
    due("bodies", x.heap(1), 7);
    // From 7 triangles three points are to go: 2 bodies fewer each time.
    due("chain(0, 1, -1)", x.chain(0, 1, -1), 3);
    due("chain(0, 2, -1)", x.chain(0, 2, -1), 3);
    chains(x, 3, 2);
    x.make(1);
    due("up to 7", x.chain(3, 1, -1), 3);
    due("up to 7 without sort 1", x.chain(3, 2, -1), NOT);
    due("up to 7 without sort 1, flip 0", x.chain(3, 2, 0), NOT);
    chains(x, 1, 1, 0);
    chains(x, 2, 1, 0, 1);
    due("beyond 3", made(3, 0).chain(0, 1, -1), NONE);
    x.make(2);
    due("no chain", x.chain(0, 1, -1), NOT);
    due("no chain, flip 0", x.chain(0, 1, 0), NOT);
    int[][] none = {{-1, 1, 0}, {4, 1, 0}, {0, 1, -2}, {0, 3, -2}, {LOW, 9, LOW}, {BIG, 0, 0}};
    for (int[] n : none) due("chain(" + n[0] + ", " + n[1] + ", " + n[2] + ")", x.chain(n[0], n[1], n[2]), NONE);
    for (int least : new int[] {0, 3, -1, LOW, BIG}) due("chain(0, " + least + ", 0)", x.chain(0, least, 0), BAD);
    x.bodies(4);
    due("chain(0, 1, -1) of unlike K", x.chain(0, 1, -1), STATE);
    due("chain(0, 3, -1) of unlike K", x.chain(0, 3, -1), BAD);
    due("chain(0, 3, -2) of unlike K", x.chain(0, 3, -2), NONE);
    chainOfTwo();
    chainOfFour();
    chainTooLong();
  }

  private static void chainTooLong() {
    // From 9 triangles to 1: four points are to go, one by each flip.
    FaceFlips x = made(3, 1);
    x.keep();
    for (int i = 0; i < 4; i++) x.flip(x.flips(0) - 1);
    due("bodies", x.heap(1), 9);
    due("chain(0, 1, -1) of four", x.chain(0, 1, -1), NOT);
    due("chain(0, 2, -1) of four", x.chain(0, 2, -1), NOT);
    due("chain(0, 1, 0) of four", x.chain(0, 1, 0), NOT);
    x.keep();
    x.make(1);
    due("chain(1, 1, -1) of four", x.chain(1, 1, -1), NOT);
    // A flip of the first set there is.
    x = of(3, 14);
    x.keep();
    x.flip(0);
    hasBodies("point 0 put in", x, 7, 11, 13);
    isFlip(x, 0, 1, 14, 3);
    chains(x, 0, 1, 0);
  }

  private static void chainOfTwo() {
    // Two flips that have nothing to do with each other: the lesser first; numbers are those of all flips.
    FaceFlips x = of(3, 7, 14, 112, 224 - 32 + 16);
    due("flips", x.flips(0), 2);
    x.keep();
    isFlip(x, 0, 6, 9, 2);
    isFlip(x, 1, 80, 160, 2);
    x.flip(1);
    x.flip(0);
    chains(x, 0, 2, 0, 1);
    chains(x, 0, 1, 0, 1);
    // A flip of sort 1 has a number too, where chains are without.
    x = of(3, 13, 7, 28);
    x.keep();
    int edge = x.number(12);
    x.flip(edge);
    due("bodies", x.heap(1), 3);
    due("the way back", x.flipOf(x.chain(0, 2, 0), 0), 17);
    due("a flip of sort 1 ahead of it", x.flips(1) > 0 && x.chain(0, 2, 0) > 0 ? 1 : 0, 1);
  }

  private static void chainOfFour() {
    FaceFlips x = of(4, 15, 30);
    x.keep();
    x.flip(0);
    chains(x, 0, 1, 0);
    // Bodies 23, 27, 29: their middle edge is 17, sets 3 with the others' points 14; then one of them is cut up.
    x.flip(1);
    due("bodies", x.heap(1), 6);
    due("chain(0, 1, -1)", x.chain(0, 1, -1), 2);
    due("chain(0, 2, -1)", x.chain(0, 2, -1), 2);
    x.make(0);
    due("from none", x.chain(0, 1, -1), NOT);
    x.keep();
    chains(x, 1, 1);
  }

  private static int alikeOf(int k, int[] one, int l, int[] other) {
    FaceFlips x = of(k, one);
    x.keep();
    x.bodies(l);
    for (int s : other) x.body(s);
    x.keep();
    due("alike(0, 0)", x.alike(0, 0), 1);
    int there = x.alike(0, 1);
    due("alike(1, 0)", x.alike(1, 0), there);
    return there;
  }

  private static void alike() {
    promise = 24;
    due("two triangles", alikeOf(3, new int[] {7}, 3, new int[] {224}), 1);
    due("nothing of 3 and 4", alikeOf(3, new int[] {}, 4, new int[] {}), 0);
    due("nothing", alikeOf(4, new int[] {}, 4, new int[] {}), 1);
    due("one and two", alikeOf(3, new int[] {7}, 3, new int[] {7, 14}), 0);
    due("row of three and fan of three", alikeOf(3, new int[] {7, 14, 28}, 3, new int[] {7, 13, 25}), 1);
    due("row of four and fan of four", alikeOf(3, new int[] {7, 14, 28, 56}, 3, new int[] {7, 13, 25, 49}), 0);
    due("edge and point", alikeOf(3, new int[] {7, 14}, 3, new int[] {7, 28}), 0);
    due("ring, turned and not", alikeOf(3, TURNED, 3, new int[] {7, 14, 28, 56, 49}), 0);
    due("ring by other names", alikeOf(3, TURNED, 3, new int[] {224, 112, 56, 8 + 16 + 128, 8 + 64 + 128}), 1);
    // Every point is in three bodies, every edge in two, in both; only the bodies tell them apart.
    due("two spheres and a cross", alikeOf(3, new int[] {7, 11, 13, 14, 112, 176, 208, 224}, 3,
        new int[] {21, 22, 25, 26, 37, 38, 41, 42}), 0);
    due("row of 4", alikeOf(4, new int[] {15, 30, 60, 120, 240}, 4, new int[] {15, 30, 60, 120, 240}), 1);
    FaceFlips x = made(3, 1);
    x.keep();
    int[][] none = {{-1, 0}, {0, -1}, {1, 0}, {0, 1}, {LOW, BIG}, {0, 4}};
    for (int[] n : none) due("alike(" + n[0] + ", " + n[1] + ")", x.alike(n[0], n[1]), NONE);
  }

  private static void common() {
    promise = 25;
    FaceFlips x = of(3, 7, 14, 28);
    x.keep();
    x.body(7);
    x.body(56);
    x.keep();
    x.bodies(4);
    x.make(1);
    x.keep();
    due("common(0, 1)", x.common(0, 1), 2);
    due("common(1, 0)", x.common(1, 0), 2);
    due("common(1, 1)", x.common(1, 1), 3);
    due("common(0, 2)", x.common(0, 2), 0);
    due("common(2, 1)", x.common(2, 1), 0);
    int[][] none = {{-1, 0}, {0, -1}, {3, 0}, {0, 3}, {LOW, BIG}};
    for (int[] n : none) due("common(" + n[0] + ", " + n[1] + ")", x.common(n[0], n[1]), NONE);
  }

  private static void fewer() {
    promise = 26;
    FaceFlips x = of(3, 11, 13, 14);
    due("fewer(0)", x.fewer(0), 1);
    due("fewer(1)", x.fewer(1), 1);
    hasBodies("in thought", x, 11, 13, 14);
    x.flip(1);
    due("fewer(0)", x.fewer(0), 2);
    due("fewer(1)", x.fewer(1), 1);
    x = of(4, 23, 27, 29);
    due("fewer(0) of 3 for 2", x.fewer(0), 1);
    due("fewer(1) of 3 for 2", x.fewer(1), 2);
    x = of(4, 23, 27, 29, 30);
    due("fewer(0) of 4", x.fewer(0), 1);
    due("fewer(1) of 4", x.fewer(1), 1);
    x = made(3, 5);
    due("fewer(0) of the cross", x.fewer(0), 0);
    due("fewer(1) of the cross", x.fewer(1), 8);
    due("fewer(0) of none", of(3).fewer(0), 0);
    due("fewer(1) of none", of(3).fewer(1), 0);
    for (int what : new int[] {-1, 2, LOW, BIG}) due("fewer(" + what + ")", x.fewer(what), NONE);
  }

  private static void walk() {
    promise = 27;
    FaceFlips x = made(3, 2);
    due("walk(5, 7, 0)", x.walk(5, 7, 0), 10);
    due("walk(5, 7, 1)", x.walk(5, 7, 1), 127);
    due("walk(5, 7, 2)", x.walk(5, 7, 2), 102);
    due("walk(0, 7, 0)", x.walk(0, 7, 0), 4);
    due("walk(0, 7, 1)", x.walk(0, 7, 1), 15);
    due("walk(1, -9, 1)", x.walk(1, -9, 1), 31);
    for (int n : new int[] {-1, 21, LOW, BIG}) {
      due("walk(" + n + ", 0, 0)", x.walk(n, 0, 0), BAD);
      due("walk(" + n + ", 0, 3)", x.walk(n, 0, 3), BAD);
    }
    for (int what : new int[] {-1, 3, LOW, BIG}) due("walk(20, 0, " + what + ")", x.walk(20, 0, what), NONE);
    hasBodies("in thought", x, 7, 11, 13, 14);
    due("walk(20, 1, 0) of none", of(3).walk(20, 1, 0), 0);
    due("walk(1, 5, 0) of one flip", made(3, 1).walk(1, 5, 0), 3);
    due("walk(2, 5, 0) of a ball of 4", made(4, 1).walk(1, 5, 0), 4);
    // One draw below 3: of z 0: 12345 over 65536 is 0. Of z 1: 1103527590 over 65536 is 16838, modulo 3 is 2.
    x = of(3, 7, 14);
    due("walk(1, 0, 0)", x.walk(1, 0, 0), 2);
    due("walk(1, 1, 0)", x.walk(1, 1, 0), 4);
    // Of z 2: 2207042835, wrapped and without its sign's bit 59559187, over 65536 is 908: 2; z -1 : 3191464396 less
    // 2147483648 is 1043980748 over 65536 is 15929: 2. Of z 3: 3310570425 is 1163086777: 17747: 2. Of z 6: 16809: 0.
    due("walk(1, 2, 0)", x.walk(1, 2, 0), 4);
    due("walk(1, -1, 0)", x.walk(1, -1, 0), 4);
    for (int z = -2000000000; z < 1950000000; z += 49999999) {
      long then = (z * 1103515245L + 12345L) & 0x7fffffffL;
      due("walk(1, " + z + ", 0)", x.walk(1, z, 0), then / 65536 % 3 == 0 ? 2 : 4);
    }
  }

  private static void feed() {
    promise = 28;
    FaceFlips x = new FaceFlips();
    for (int s : new int[] {-1, 128, 256, LOW, BIG}) due("feed(" + s + ")", x.feed(s), BAD);
    due("feed(0)", x.feed(0), 1);
    due("feed(127)", x.feed(127), 2);
    for (int i = 3; i <= 120; i++) due("feed(97)", x.feed(97), i);
    due("feed(97)", x.feed(97), FULL);
    due("feed(128) where full", x.feed(128), BAD);
    due("count(3)", x.count(3), 120);
    due("read()", x.read(), -100);
    due("feed(98)", x.feed(98), 1);
  }

  private static void words(FaceFlips x, String text, int want, int bodies) {
    due("read() of '" + text + "'", say(x, text), want);
    due("count(3) after '" + text + "'", x.count(3), 0);
    due("count(0) after '" + text + "'", x.count(0), bodies);
  }

  private static void read() {
    promise = 29;
    FaceFlips x = new FaceFlips();
    words(x, "ball", 1, 1);
    words(x, "sphere", 1, 4);
    words(x, "row", 1, 6);
    words(x, "round", 1, 8);
    words(x, "cross", 1, 8);
    due("a point of the cross", x.bodyOf(0), 21);
    words(x, "nothing", 1, 0);
    words(x, "four cross", 2, 16);
    due("heap(0)", x.heap(0), 4);
    words(x, "three", 1, 0);
    due("heap(0)", x.heap(0), 3);
    words(x, "ball flip0 flip1", 3, 5);
    words(x, "ball flip00 flip01", 3, 5);
    words(x, "ball keep row keep take0", 5, 1);
    due("count(1)", x.count(1), 2);
    words(x, "take1 take2 take9", 1, 6);
    words(x, "keep keep keep", 2, 6);
    words(x, "nothing body012 body567 body210", 4, 1);
    due("bodyOf(0)", x.bodyOf(0), 224);
    words(x, "body0 body01 body0123", 0, 1);
    words(x, "body018 body019 body890", 0, 1);
    words(x, "body00112 body22222221", 1, 2);
    due("bodyOf(0)", x.bodyOf(0), 7);
    words(x, "flip99 flip9", 0, 2);
    words(x, "four body0123 body76543210", 2, 1);
    words(x, "row row row row row row row row row row row row", 12, 5);
    words(x, "three ball body01234567 keep flip5 flip0", 3, 3);
    FaceFlips y = made(4, 5);
    for (int i = 10; i < 32; i++) {
      y.make(5);
      y.flip(i);
      say(x, "four cross flip" + i);
      for (int n = 0; n < 17; n++) due("body " + n + " behind flip" + i, x.bodyOf(n), y.bodyOf(n));
    }
    say(x, "three");
    // A full text: nine that are refused, of 13 signs with their blanks, and one that is not.
    String nine = "";
    for (int i = 0; i < 9; i++) nine += "body01234567 ";
    words(x, nine + "row", 1, 6);
    words(x, nine + "ro" + "1", -100 - 117, 6);
    words(x, "a".repeat(120), -100, 6);
    words(x, "ba", -100, 6);
    // A flip is by its number as FLIPS are then.
    words(x, "four ball flip0 flip0 flip0", 5, 4);
  }

  private static void fault(String text, int place) {
    FaceFlips x = made(3, 2);
    x.keep();
    due("read() of '" + text + "'", say(x, text), -100 - place);
    counts("after the fault of '" + text + "'", x, 4, 1, 1, 0, 0);
  }

  private static void faults() {
    String[] names = {"nothing", "ball", "sphere", "row", "round", "cross", "three", "four", "keep"};
    for (String name : names) {
      fault("ball " + name + "0", 5);
      fault("ball " + name.substring(1), 5);
      fault("ball " + name.substring(0, name.length() - 1), 5);
      fault("ball " + name.substring(0, name.length() - 1) + "z", 5);
      fault("ball z" + name.substring(1), 5);
      fault("ball " + name + "_", 5 + name.length());
    }
    fault("", 0);
    fault(" ball", 0);
    fault("7", 0);
    fault("Ball", 0);
    fault("ball ", 5);
    fault("ball  ball", 5);
    fault("ball 7", 5);
    fault("ball keep ", 10);
    fault("bal", 0);
    fault("balls", 0);
    fault("ball1", 0);
    fault("ball keep0", 5);
    fault("ball three3", 5);
    fault("nothing four4", 8);
    fault("flip", 0);
    fault("flip123", 0);
    fault("flip ", 0);
    fault("row flip123x", 4);
    fault("take", 0);
    fault("take00", 0);
    fault("body", 0);
    fault("body012345670", 0);
    fault("ball body", 5);
    fault("ball,", 4);
    fault("ball, 7", 4);
    fault("ballX", 4);
    fault("flip0x", 5);
    fault("flip0 flip1-", 11);
    fault("body012x", 7);
    fault("ball\tball", 4);
    fault("ball`", 4);
    fault("ball{", 4);
    fault("flip/", 0);
    fault("flip:", 0);
    fault("flip0/", 5);
    fault("flip0:", 5);
    fault("ball\u0000", 4);
    fault("ball ball ball xball ball  ball", 15);
    fault("row row row row row row row row row row row row row", 47);
    fault("row row row row row row row row row row row row ", 47);
    fault("row row row row row row row row row row row rowx", 44);
    fault("row row row row row row row row row row row row1", 44);
    fault("row row row row row row row row row row row row.", 47);
  }

  private static void spell() {
    promise = 30;
    FaceFlips x = made(3, 4);
    due("spell()", x.spell(), 31);
    due("THE PAPER is '012 ...'", "012 123 234 345 456 017 067 567".equals(paperOf(x)) ? 1 : 0, 1);
    due("spell() once more", x.spell(), 31);
    x.make(1);
    due("count(4)", x.count(4), 31);
    due("spell()", x.spell(), 3);
    due("count(4)", x.count(4), 3);
    x.make(0);
    due("spell()", x.spell(), 0);
    due("paper(0)", x.paper(0), NONE);
    x.bodies(4);
    for (int s = 0; s < 256; s++) if (Integer.bitCount(s) == 4) x.body(s);
    due("spell() of all", x.spell(), 349);
    due("THE PAPER's first", paperOf(x).startsWith("0123 0124 0134 0234 1234 0125 ") ? 1 : 0, 1);
    due("THE PAPER's last", paperOf(x).endsWith(" 3567 4567") ? 1 : 0, 1);
  }

  private static void paper() {
    promise = 31;
    FaceFlips x = of(3, 7, 224);
    due("paper(0) before", x.paper(0), NONE);
    x.spell();
    int[] want = {48, 49, 50, 32, 53, 54, 55};
    for (int i = 0; i < 7; i++) due("paper(" + i + ")", x.paper(i), want[i]);
    for (int i : new int[] {-1, 7, 349, 400, LOW, BIG}) due("paper(" + i + ")", x.paper(i), NONE);
    x.make(1);
    due("paper(6) still", x.paper(6), 55);
    x.spell();
    due("paper(3)", x.paper(3), NONE);
  }

  private static void judge() {
    promise = 32;
    FaceFlips x = of(3, 7, 14, 28);
    due("judge(0)", x.judge(0), NOTHING);
    for (int l : new int[] {-1, 4, LOW, BIG}) due("judge(" + l + ")", x.judge(l), NONE);
    int[][] told = {{NOT, 7, 14, 28}, {3, 7, 14, 28, 56}, {3, 7, 14, 28, 0}, {2, 7, 14}, {0}, {0, 14, 7, 28}, {1, 7, 28, 14},
        {2, 7, 14, 29}, {1, 7, -14, 28}, {1, 7, 7, 14, 28}};
    for (int[] t : told) {
      tell(x, 1, java.util.Arrays.copyOfRange(t, 1, t.length));
      due("judge() of " + java.util.Arrays.toString(t), x.judge(1), t[0]);
    }
    x.make(0);
    tell(x, 1);
    due("judge() of nothing", x.judge(1), NOT);
    tell(x, 1, 0);
    due("judge() of a 0", x.judge(1), 0);
    x.bodies(4);
    for (int s = 0; s < 256; s++) if (Integer.bitCount(s) == 4) x.body(s);
    x.list(1, 40);
    for (int i = 0; i < 40; i++) x.put(1, i, x.bodyOf(i));
    due("judge() of 40 of 70", x.judge(1), 40);
  }

  private static void list() {
    promise = 33;
    FaceFlips x = new FaceFlips();
    due("list(3, 40)", x.list(3, 40), 1);
    due("put(3, 39, 5)", x.put(3, 39, 5), 1);
    for (int l : new int[] {-1, 4, LOW, BIG}) {
      due("list(" + l + ", 1)", x.list(l, 1), NONE);
      due("list(" + l + ", 41)", x.list(l, 41), NONE);
      due("list(" + l + ", -1)", x.list(l, -1), NONE);
    }
    for (int n : new int[] {41, BIG}) due("list(3, " + n + ")", x.list(3, n), BAD);
    for (int n : new int[] {-1, LOW}) due("list(3, " + n + ")", x.list(3, n), SIZE);
    due("get(3, 39)", x.get(3, 39), 5);
    for (int i = 0; i < 40; i++) x.put(3, i, 9);
    due("list(3, 40)", x.list(3, 40), 1);
    for (int i = 0; i < 40; i++) due("get(3, " + i + ")", x.get(3, i), 0);
    due("list(3, 0)", x.list(3, 0), 1);
    due("get(3, 0)", x.get(3, 0), FaceFlips.NO);
    due("put(3, 0, 1)", x.put(3, 0, 1), PLACE);
    due("judge(3)", x.judge(3), NOT);
    due("judge(2)", x.judge(2), NOTHING);
  }

  private static void put() {
    promise = 34;
    FaceFlips x = new FaceFlips();
    due("put(0, 0, 1)", x.put(0, 0, 1), NOTHING);
    x.list(0, 2);
    x.list(1, 2);
    for (int v : new int[] {7, -7, LOW, BIG}) {
      due("put(0, 1, " + v + ")", x.put(0, 1, v), 1);
      due("get(0, 1)", x.get(0, 1), v);
    }
    due("get(0, 0)", x.get(0, 0), 0);
    due("get(1, 1)", x.get(1, 1), 0);
    for (int i : new int[] {-1, 2, 40, LOW, BIG}) due("put(0, " + i + ", 1)", x.put(0, i, 1), PLACE);
    for (int l : new int[] {-1, 4, LOW, BIG}) due("put(" + l + ", 9, 1)", x.put(l, 9, 1), NONE);
    due("put(2, -1, 1)", x.put(2, -1, 1), NOTHING);
  }

  private static void get() {
    promise = 35;
    FaceFlips x = new FaceFlips();
    long no = Long.MIN_VALUE;
    due("get(0, 0)", x.get(0, 0), no);
    tell(x, 0, 11, -5, LOW);
    due("get(0, 0)", x.get(0, 0), 11);
    due("get(0, 1)", x.get(0, 1), -5);
    due("get(0, 2)", x.get(0, 2), -2147483648L);
    for (int i : new int[] {-1, 3, 40, LOW, BIG}) due("get(0, " + i + ")", x.get(0, i), no);
    for (int l : new int[] {-1, 1, 4, LOW, BIG}) due("get(" + l + ", 0)", x.get(l, 0), no);
  }

  private static void isList(FaceFlips x, int list, int... want) {
    for (int i = 0; i < want.length; i++) due("get(" + list + ", " + i + ")", x.get(list, i), want[i]);
    due("get(" + list + ", " + want.length + ")", x.get(list, want.length), FaceFlips.NO);
  }

  private static void copy() {
    promise = 36;
    FaceFlips x = new FaceFlips();
    tell(x, 0, 1, 2, 3, 4, 5);
    tell(x, 1, 9, 9);
    due("copy(0, 3, 1, 0, 2)", x.copy(0, 3, 1, 0, 2), 2);
    isList(x, 1, 4, 5);
    isList(x, 0, 1, 2, 3, 4, 5);
    due("copy(0, 0, 0, 1, 4)", x.copy(0, 0, 0, 1, 4), 4);
    isList(x, 0, 1, 1, 2, 3, 4);
    due("copy(0, 2, 0, 0, 3)", x.copy(0, 2, 0, 0, 3), 3);
    isList(x, 0, 2, 3, 4, 3, 4);
    due("copy(0, 5, 1, 2, 0)", x.copy(0, 5, 1, 2, 0), 0);
    int[][] place = {{0, 0, 1, 0, 3}, {0, 4, 1, 0, 2}, {0, 0, 1, 1, 2}, {0, -1, 1, 0, 1}, {0, 0, 1, -1, 1}, {0, 0, 1, 0, -1},
        {0, 6, 1, 0, 0}, {0, 0, 1, 3, 0}, {0, BIG, 1, 0, 1}, {0, 1, 1, BIG, 1}, {0, 1, 1, 0, BIG}, {0, BIG, 1, BIG, BIG},
        {0, LOW, 1, LOW, LOW}, {0, 0, 1, 0, LOW}};
    for (int[] p : place) {
      due("copy(" + java.util.Arrays.toString(p) + ")", x.copy(p[0], p[1], p[2], p[3], p[4]), PLACE);
    }
    due("copy(2, 0, 0, 0, 0)", x.copy(2, 0, 0, 0, 0), NOTHING);
    due("copy(0, 0, 2, 0, -1)", x.copy(0, 0, 2, 0, -1), NOTHING);
    int[][] none = {{-1, 0}, {4, 0}, {0, -1}, {0, 4}, {2, 4}, {LOW, BIG}};
    for (int[] n : none) due("copy(" + n[0] + ", 0, " + n[1] + ", 0, -1)", x.copy(n[0], 0, n[1], 0, -1), NONE);
    isList(x, 0, 2, 3, 4, 3, 4);
    isList(x, 1, 4, 5);
  }

  private static void image() {
    promise = 37;
    FaceFlips x = new FaceFlips();
    due("image() of none", x.image(), 0);
    x.make(2);
    due("undo()", x.undo(), 0);
    x.make(2);
    due("image()", x.image(), 4);
    due("count(2)", x.count(2), 1);
    x.make(1);
    due("undo()", x.undo(), 4);
  }

  private static void undo() {
    promise = 38;
    FaceFlips x = made(4, 2);
    due("undo()", x.undo(), STATE);
    due("count(2)", x.count(2), 1);
    x.keep();
    x.image();
    x.bodies(3);
    x.make(1);
    x.keep();
    x.feed(97);
    x.spell();
    x.list(2, 3);
    due("undo()", x.undo(), 5);
    due("heap(0)", x.heap(0), 4);
    hasBodies("undone", x, 15, 23, 27, 29, 30);
    counts("undone", x, 5, 1, 0, 1, 3);
    due("kept(0, 1)", x.kept(0, 1), 5);
    due("kept(1, 1)", x.kept(1, 1), NONE);
    due("get(2, 2)", x.get(2, 2), 0);
    x.flip(0);
    due("keep()", x.keep(), 1);
    due("kept(1, 1)", x.kept(1, 1), 8);
    due("undo() once more", x.undo(), 5);
    due("count(1)", x.count(1), 1);
    // A heap that was kept stays what it was, though its number was given anew in between.
    FaceFlips y = made(3, 1);
    y.image();
    y.keep();
    y.undo();
    y.make(2);
    y.keep();
    due("kept(0, 1)", y.kept(0, 1), 4);
    y.image();
    due("undo()", y.undo(), 4);
    due("kept(0, 1)", y.kept(0, 1), 4);
  }

  private static void count() {
    promise = 39;
    FaceFlips x = new FaceFlips();
    x.make(3);
    x.make(2);
    x.keep();
    x.keep();
    x.spell();
    for (int i = 0; i < 7; i++) x.feed(32);
    counts("all", x, 4, 2, 2, 7, 15);
    for (int what : new int[] {-1, 5, LOW, BIG}) due("count(" + what + ")", x.count(what), BAD);
  }
}
