/** The boundaries in the document's first term: points, bodies, faces, walls, numbers that stay, kinds. */
final class FaceFlipsHeapEdges extends FaceFlipsDue {
  // Five triangles in a ring that is turned once; six points, each two of them an edge, no wall.
  private static final int[] TURNED = {7, 14, 28, 25, 19};
  private static final int[] ONE_SIDED = {7, 13, 25, 49, 35, 22, 44, 26, 52, 42};
  static void run() {
    points();
    theHeap();
    faces();
    there();
    walls();
    right();
    euler();
    link();
    beside();
    parts();
    apart();
    twoSided();
    kinds();
  }

  private static void points() {
    edge("1", "POINTS are 0 .. 7");
    FaceFlips x = of(3);
    due("cone(-1)", x.cone(-1), NONE);
    due("cone(0)", x.cone(0), 0);
    due("cone(7)", x.cone(7), 0);
    due("cone(8)", x.cone(8), NONE);
    due("face(128, 0)", x.face(128, 0), 0);
    due("face(256, 0)", x.face(256, 0), NONE);
    edge("1", "sets of POINTS are told as bits (POINT p: bit p), the least as bits first.");
    due("body(7)", x.body(7), 1);
    due("body(224)", x.body(224), 2);
    due("body(256 + 3)", x.body(256 + 3), NONE);
    due("body(LOW + 3)", x.body(LOW + 3), NONE);
    due("body(-256 + 7)", x.body(-256 + 7), NONE);
    // Triangle 017 has a lesser point than 234, but is more as bits.
    has("two", of(3, 131, 28), 28, 131);
    due("wall(0)", of(3, 131, 28).wall(0), 3);
    due("wall(5)", of(3, 131, 28).wall(5), 130);
  }

  private static void theHeap() {
    edge("1", "THE HEAP: BODIES, sets of K POINTS each (K is 3 or 4; 3 and no BODIES at first).");
    FaceFlips x = new FaceFlips();
    due("heap(0)", x.heap(0), 3);
    due("heap(1)", x.heap(1), 0);
    due("bodyOf(0)", x.bodyOf(0), NOT);
    due("bodies(2)", x.bodies(2), BAD);
    due("bodies(5)", x.bodies(5), BAD);
    due("body(3)", x.body(3), NONE);
    due("body(15)", x.body(15), NONE);
    due("body(7)", x.body(7), 1);
    due("bodies(3)", x.bodies(3), 3);
    due("bodies(4)", x.bodies(4), 3);
    due("body(7) of 4", x.body(7), NONE);
    due("body(31) of 4", x.body(31), NONE);
    due("body(15) of 4", x.body(15), 1);
    due("bodies(4)", x.bodies(4), 4);
  }

  private static void faces() {
    edge("1", "A FACE: a set, not empty, that lies within a BODY (a BODY is one, too).");
    FaceFlips x = of(3);
    due("face(0, 0)", x.face(0, 0), NONE);
    due("face(1, 0) of no bodies", x.face(1, 0), 0);
    x = of(3, 7, 56);
    for (int s : new int[] {1, 3, 5, 6, 7, 8, 32, 40, 56}) due("face(" + s + ", 0)", x.face(s, 0), 1);
    // More than a body, part of two bodies together, a point that is in none.
    for (int s : new int[] {15, 63, 9, 12, 64, 67, 255}) due("face(" + s + ", 0)", x.face(s, 0), 0);
    due("face(7, 0) of 4", of(4, 15).face(7, 0), 1);
    due("face(15, 0) of 4", of(4, 15).face(15, 0), 1);
    due("face(31, 0) of 4", of(4, 15).face(31, 0), 0);
    due("face(23, 0) of 4", of(4, 15).face(23, 0), 0);
  }

  private static void there() {
    edge("1", "A POINT is THERE, if it is in some BODY.");
    FaceFlips x = of(3);
    due("heap(2) of none", x.heap(2), 0);
    x.body(7);
    x.body(28);
    due("heap(2)", x.heap(2), 31);
    due("cone(2)", x.cone(2), STATE);
    x.body(28);
    due("heap(2) with one body gone", x.heap(2), 7);
    due("cone(2) still", x.cone(2), STATE);
    x.body(7);
    due("heap(2) with both gone", x.heap(2), 0);
    due("cone(2) then", x.cone(2), 0);
    x.body(131);
    due("heap(2) of the first and the last point", x.heap(2), 131);
    due("heap(2) of all", full(4).heap(2), 255);
  }

  private static void isWalls(String what, FaceFlips x, int... sets) {
    due(what + ": heap(3)", x.heap(3), sets.length);
    for (int i = 0; i < sets.length; i++) due(what + ": wall(" + i + ")", x.wall(i), sets[i]);
    due(what + ": wall(" + sets.length + ")", x.wall(sets.length), NOT);
  }

  private static void walls() {
    edge("1", "WALLS: sets of K less 1 POINTS that lie in just one BODY.");
    FaceFlips x = of(3);
    isWalls("in none", x);
    x.body(7);
    isWalls("in one", x, 3, 5, 6);
    x.body(14);
    isWalls("6 in two", x, 3, 5, 10, 12);
    x.body(22);
    isWalls("6 in three", x, 3, 5, 10, 12, 18, 20);
    x.body(22);
    isWalls("6 in two again", x, 3, 5, 10, 12);
    isWalls("of 4", of(4, 15), 7, 11, 13, 14);
    isWalls("of 4, 14 in two", of(4, 15, 30), 7, 11, 13, 22, 26, 28);
    isWalls("a sphere", made(4, 2));
    FaceFlips spread = spread();
    due("heap(3), each triangle in one", spread.heap(3), 56);
    due("wall(0)", spread.wall(0), 7);
    due("wall(55)", spread.wall(55), 224);
    due("wall(56)", spread.wall(56), NOT);
  }

  private static void right() {
    edge("1", "THE HEAP is RIGHT, if no set of K less 1 POINTS lies in more than two.");
    FaceFlips x = of(3);
    due("none", x.heap(4), 1);
    x.body(7);
    due("in one", x.heap(4), 1);
    x.body(14);
    due("in two", x.heap(4), 1);
    x.body(22);
    due("in three", x.heap(4), 0);
    x.body(7);
    due("in two again", x.heap(4), 1);
    due("in six", full(3).heap(4), 0);
    due("a point in six", of(3, 7, 13, 25, 49, 97, 193).heap(4), 1);
    due("a triangle in two", of(4, 15, 23).heap(4), 1);
    due("a triangle in three", of(4, 15, 23, 39).heap(4), 0);
    due("an edge in three", of(4, 15, 51, 195).heap(4), 1);
    due("the last triangle in three", of(4, 225, 226, 228).heap(4), 0);
  }

  private static void euler() {
    edge("1", "EULER: how many FACES there are of 1 POINT, less those of 2, plus those of 3, less those of 4.");
    due("none", of(3).heap(5), 100);
    due("none of 4", of(4).heap(5), 100);
    due("3 - 3 + 1", of(3, 7).heap(5), 101);
    due("4 - 6 + 4 - 1", of(4, 15).heap(5), 101);
    due("8 - 28 + 56", full(3).heap(5), 136);
    due("8 - 28 + 56 - 70, below 0", full(4).heap(5), 66);
    due("8 - 28 + 56 - 14", spread().heap(5), 122);
    due("6 - 6 + 2", of(3, 7, 56).heap(5), 102);
  }

  private static void isFace(FaceFlips x, int set, int in, int link, int points) {
    due("face(" + set + ", 1)", x.face(set, 1), in);
    due("face(" + set + ", 2)", x.face(set, 2), link);
    due("face(" + set + ", 3)", x.face(set, 3), points);
  }

  private static void link() {
    edge("1", "LINK of a FACE: all sets (the empty one, too) that have no POINT in common with it and that are, with it"
        + " together, a FACE.");
    FaceFlips x = of(3, 7, 14);
    // Of a body the empty set alone; of what is no face none.
    isFace(x, 7, 1, 1, 0);
    isFace(x, 11, 0, 0, 0);
    isFace(x, 9, 0, 0, 0);
    isFace(x, 128, 0, 0, 0);
    isFace(x, 255, 0, 0, 0);
    isFace(x, 6, 2, 3, 9);
    isFace(x, 3, 1, 2, 4);
    isFace(x, 2, 2, 6, 13);
    isFace(of(3), 1, 0, 0, 0);
    // All sets of the others, of 2 points at most, and of 3 at most: 1 + 7 + 21 and 35 more.
    isFace(full(3), 1, 21, 29, 254);
    isFace(full(4), 1, 35, 64, 254);
    isFace(full(4), 128, 35, 64, 127);
    isFace(full(4), 240, 1, 1, 0);
  }

  private static void beside() {
    edge("1", "BODIES are BESIDE each other, if they have K less 1 POINTS in common.");
    due("2 of 3", of(3, 7, 14).apart(0, 1), 1);
    due("1 of 3", of(3, 7, 28).apart(0, 1), NOT);
    due("0 of 3", of(3, 7, 56).apart(0, 1), NOT);
    due("3 of 4", of(4, 15, 30).apart(0, 1), 1);
    due("2 of 4", of(4, 15, 60).apart(0, 1), NOT);
    due("1 of 4", of(4, 15, 120).apart(0, 1), NOT);
    due("0 of 4", of(4, 15, 240).apart(0, 1), NOT);
  }

  private static void parts() {
    edge("1", "PARTS: into how many THE HEAP falls, BODIES that are BESIDE each other being in one.");
    due("none", of(3).heap(6), 0);
    due("one", of(3, 224).heap(6), 1);
    due("two beside each other", of(3, 7, 14).heap(6), 1);
    due("two with a point in common", of(3, 7, 28).heap(6), 2);
    FaceFlips x = of(3, 7, 28);
    x.body(14);
    due("a third beside both", x.heap(6), 1);
    x.body(14);
    due("without it", x.heap(6), 2);
    // Each two of these eight have one point at most in common.
    due("eight", of(3, 7, 56, 73, 146, 98, 140, 161, 84).heap(6), 8);
    due("fourteen of 4", spread().heap(6), 14);
    due("all", full(4).heap(6), 1);
  }

  private static void apart() {
    edge("1", "APART of two BODIES: in how many steps, at least, one comes from the one to the other, each to one"
        + " BESIDE it (0: they are one; -5: not at all).");
    FaceFlips x = made(3, 3);
    for (int i = 0; i < 6; i++) due("apart(0, " + i + ")", x.apart(0, i), i);
    due("apart(5, 0)", x.apart(5, 0), 5);
    due("apart(5, 5)", x.apart(5, 5), 0);
    // Numbers 1 and 2 are 14 and 28; without 28 there is no way from 14 on.
    x.body(28);
    due("apart(1, 2) over the gap", x.apart(1, 2), NOT);
    due("apart(2, 1) over the gap", x.apart(2, 1), NOT);
    due("apart(0, 1)", x.apart(0, 1), 1);
    // By both ways round: 7, 14, 28, 56, 112, 224, 193, 131 are numbers 0, 1, 2, 3, 4, 7, 6, 5.
    x = made(3, 4);
    due("apart(0, 4), half round", x.apart(0, 4), 4);
    due("apart(0, 7), round the other way", x.apart(0, 7), 3);
    due("apart(0, 5), one step the other way", x.apart(0, 5), 1);
    due("apart(0, 55) of all", full(3).apart(0, 55), 3);
    due("apart(0, 69) of all of 4", full(4).apart(0, 69), 4);
  }

  private static void twoSided() {
    edge("1", "TWO-SIDED: whether each BODY can be given one of two signs so that all that are BESIDE each other agree");
    due("none", of(3).heap(7), 1);
    due("one", of(3, 7).heap(7), 1);
    due("two", of(3, 7, 14).heap(7), 1);
    due("two on each set of K less 1", made(4, 2).heap(7), 1);
    due("three on one set", of(3, 7, 11, 19).heap(7), 0);
    due("three on one set of 4", of(4, 15, 23, 39).heap(7), 0);
    due("a ring that is turned", of(3, TURNED).heap(7), 0);
    due("the ring without one", of(3, 7, 14, 28, 25).heap(7), 1);
    FaceFlips x = of(3, 7, 56);
    due("two parts", x.heap(7), 1);
    x.body(19);
    x.body(11);
    due("one part of them not so", x.heap(7), 0);
    edge("1", ": let x be the POINT that the one alone has, i how many of its POINTS are less than x, y the POINT that"
        + " the other alone has, j how many of its POINTS are less than y: they agree, if i and j together are odd and"
        + " the signs are the same, or i and j together are even and the signs are unlike.");
    // What has one side or two has so by all other names of its points, through which i and j come to be all there is.
    int[] cross = {21, 22, 25, 26, 37, 38, 41, 42};
    int[] names = {0, 1, 2, 3, 4, 5, 6, 7};
    for (int n = 0; n < 60; n++) {
      int from = n % 7;
      int to = (n * 5 + 3) % 8;
      int was = names[from];
      names[from] = names[to];
      names[to] = was;
      due("CROSS by names " + n, of(3, by(names, cross)).heap(7), 1);
      due("one-sided by names " + n, of(3, by(names, ONE_SIDED)).heap(7), 0);
      due("turned ring by names " + n, of(3, by(names, TURNED)).heap(7), 0);
      due("ring by names " + n, of(3, by(names, 7, 14, 28, 56, 49, 35)).heap(7), 1);
      due("CROSS of 4 by names " + n, of(4, by(names, crossOfFour())).heap(7), 1);
    }
  }

  private static int[] crossOfFour() {
    FaceFlips x = made(4, 5);
    int[] sets = new int[16];
    for (int i = 0; i < 16; i++) sets[i] = x.bodyOf(i);
    return sets;
  }

  private static int[] by(int[] names, int... sets) {
    int[] then = new int[sets.length];
    for (int i = 0; i < sets.length; i++) {
      for (int p = 0; p < 8; p++) if ((sets[i] >> p & 1) == 1) then[i] |= 1 << names[p];
    }
    return then;
  }

  private static void kinds() {
    edge("1", "KINDS of which THE HEAP is MADE: 0 NOTHING: no BODIES.");
    FaceFlips x = made(3, 5);
    due("make(-1)", x.make(-1), NONE);
    due("make(6)", x.make(6), NONE);
    due("make(0)", x.make(0), 0);
    has("NOTHING", x);
    edge("1", "1 BALL: POINTS 0 .. K less 1.");
    has("BALL", made(3, 1), 7);
    has("BALL of 4", made(4, 1), 15);
    edge("1", "2 SPHERE: all sets of K of POINTS 0 .. K.");
    has("SPHERE", made(3, 2), 7, 11, 13, 14);
    has("SPHERE of 4", made(4, 2), 15, 23, 27, 29, 30);
    edge("1", "3 ROW: for i from 0 to 8 less K: i and the K less 1 POINTS behind it.");
    has("ROW, the last one 5", made(3, 3), 7, 14, 28, 56, 112, 224);
    has("ROW of 4, the last one 4", made(4, 3), 15, 30, 60, 120, 240);
    edge("1", "4 ROUND: for each POINT i: it and the K less 1 POINTS behind it, 0 being behind 7.");
    has("ROUND", made(3, 4), 7, 14, 28, 56, 112, 131, 193, 224);
    has("ROUND of 4", made(4, 4), 15, 30, 60, 120, 135, 195, 225, 240);
    edge("1", "5 CROSS: all sets with just one of POINTS 0 and 1, one of 2 and 3, one of 4 and 5, and, if K is 4, one of"
        + " 6 and 7.");
    has("CROSS", made(3, 5), 21, 22, 25, 26, 37, 38, 41, 42);
    has("CROSS of 4", made(4, 5), 85, 86, 89, 90, 101, 102, 105, 106, 149, 150, 153, 154, 165, 166, 169, 170);
  }
}
