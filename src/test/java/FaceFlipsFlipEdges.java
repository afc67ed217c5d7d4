import java.util.Arrays;

/** The boundaries in the document's second term: flips, cones, lists of them, steps back, kept heaps, walks. */
final class FaceFlipsFlipEdges extends FaceFlipsDue {
  // Points 3 and 7, each in three triangles, over triangles that are none; all points are there.
  private static final int[] STARS = {11, 13, 14, 176, 208, 224};

  static void run() {
    theFlip();
    flipOfBody();
    numbers();
    sorts();
    done();
    other();
    cone();
    shelled();
    plan();
    takenBack();
    leaveNone();
    kept();
    chain();
    chainOfSorts();
    chainFirst();
    alike();
    common();
    fewer();
    walk();
    draw();
    olderSteps();
  }

  private static void isFlip(FaceFlips x, int i, int a, int b, int sort) {
    due("flipOf(" + i + ", 0)", x.flipOf(i, 0), a);
    due("flipOf(" + i + ", 1)", x.flipOf(i, 1), b);
    due("flipOf(" + i + ", 2)", x.flipOf(i, 2), sort);
    due("number(" + a + ")", x.number(a), i);
  }

  private static void theFlip() {
    edge("2", "A FLIP: a FACE a and a set b of POINTS, none of a, (K plus 1) POINTS both together");
    isFlip(of(4, 30, 29, 27, 23), 0, 16, 15, 4);
    isFlip(of(4, 27, 23, 15), 0, 3, 28, 3);
    isFlip(of(4, 15, 30), 0, 14, 17, 2);
    isFlip(of(4, 15), 0, 15, 16, 1);
    isFlip(of(3, 11, 13, 14), 0, 8, 7, 3);
    isFlip(of(3, 7, 14), 0, 6, 9, 2);
    isFlip(of(3, 7), 0, 7, 8, 1);
    // No faces: nothing, points of two bodies, what has more points than a body.
    due("flips(0) of none", of(3).flips(0), 0);
    due("number(9)", of(3, 7, 14).number(9), NOT);
    due("number(15)", of(3, 7, 14).number(15), NOT);
    edge("2", ", so that b is no FACE");
    due("b no face", of(3, 7, 14).number(6), 0);
    due("b a face", of(3, 7, 14, 25).number(6), NOT);
    due("b of 3 no face, though each part of it is", of(3, 11, 13, 14).number(8), 0);
    due("b of 3 a body", of(3, 11, 13, 14, 7).number(8), NOT);
    due("b of 3 in a body of 4", of(4, 27, 23, 15, 60).number(3), NOT);
    due("an edge of b in a body of 4", of(4, 27, 23, 15, 108).number(3), 0);
    due("b of 4 no face", of(4, 30, 29, 27, 23).number(16), 0);
    due("b of 4 a body", of(4, 30, 29, 27, 23, 15).number(16), NOT);
    edge("2", ", and LINK of a has all sets of POINTS of b but b itself");
    due("one lacks at a point", of(3, 11, 13).number(8), NOT);
    due("one lacks at a point of 4", of(4, 30, 29, 27).number(16), NOT);
    due("one lacks on an edge of 4", of(4, 27, 23).number(3), NOT);
    due("one lacks on an edge", of(3, 7).number(6), NOT);
    due("three at a point, not closed", of(3, 7, 25, 97).number(1), NOT);
    due("three on an edge of 4, not closed", of(4, 15, 51, 195).number(3), NOT);
    edge("2", ", and no others.");
    due("one more on the edge", of(3, 7, 14, 38).number(6), NOT);
    due("one more at the point", of(3, 11, 13, 14, 56).number(8), NOT);
    due("one more on an edge of the point", of(3, 11, 13, 14, 25).number(8), NOT);
    due("one more on the edge of 4", of(4, 27, 23, 15, 99).number(3), NOT);
    due("one more on the triangle of 4", of(4, 15, 30, 78).number(14), NOT);
    due("one more elsewhere", of(3, 7, 14, 112).number(6), 0);
  }

  private static void flipOfBody() {
    edge("2", "Of a BODY a the set b is the least POINT that isn't THERE (if all are, there is no FLIP of it).");
    isFlip(of(3, 224), 0, 224, 1, 1);
    isFlip(of(3, 224, 97), 1, 97, 2, 1);
    FaceFlips x = of(3, 7, 56, 112);
    isFlip(x, 0, 7, 128, 1);
    due("flips(1), point 7 is left", x.flips(1), 3);
    x.body(193);
    due("flips(1), none is left", x.flips(1), 0);
    due("number(7)", x.number(7), NOT);
    x.body(193);
    due("flip(0)", x.flip(0), 5);
    due("flips(1) behind it", x.flips(1), 0);
    isFlip(of(4, 15, 120), 0, 15, 128, 1);
    due("flips(1) of all points of 4", of(4, 15, 240).flips(1), 0);
  }

  private static void numbers() {
    edge("2", "FLIPS are numbered from 0 by a, the least as bits first (each a has one at most).");
    FaceFlips[] heaps = {of(3, 7, 14, 28), of(4, 15, 30, 23), of(3, STARS), made(4, 5), made(3, 3), spread(), of(3)};
    for (FaceFlips x : heaps) {
      int next = 0;
      for (int a = 1; a < 256; a++) {
        int i = x.number(a);
        if (i == NOT) continue;
        due("number(" + a + ")", i, next);
        due("flipOf(" + i + ", 0)", x.flipOf(i, 0), a);
        next++;
      }
      due("flips(0)", x.flips(0), next);
      due("flipOf(-1, 0)", x.flipOf(-1, 0), NONE);
      due("flipOf(" + next + ", 0)", x.flipOf(next, 0), NONE);
    }
    int[] many = {heaps[0].flips(0), heaps[2].flips(0), heaps[3].flips(0), heaps[5].flips(0), heaps[6].flips(0)};
    due("flips(0) of these", Arrays.toString(many), "[5, 2, 32, 0, 0]");
  }

  private static void sorts() {
    edge("2", "SORT of a FLIP: how many BODIES have all of a (that is, how many POINTS b has).");
    FaceFlips[] heaps = {of(3, 11, 13, 14), of(3, 7, 14), of(4, 30, 29, 27, 23), of(4, 27, 23, 15), of(4, 15, 30)};
    for (FaceFlips x : heaps) {
      int[] many = new int[6];
      for (int i = 0; i < x.flips(0); i++) {
        int sort = x.flipOf(i, 2);
        due("bodies that have all of a", x.face(x.flipOf(i, 0), 1), sort);
        due("points of b", Integer.bitCount(x.flipOf(i, 1)), sort);
        due("points of a", Integer.bitCount(x.flipOf(i, 0)), x.heap(0) + 1 - sort);
        many[sort]++;
      }
      for (int s = 1; s <= x.heap(0); s++) due("flips(" + s + ")", x.flips(s), many[s]);
      due("flips(K + 1)", x.flips(x.heap(0) + 1), BAD);
    }
  }

  private static void done() {
    edge("2", "It is DONE: the BODIES that have all of a go; all sets of K POINTS of a and b together that have all of b"
        + " come.");
    thereAndBack(3, 7, 8, new int[] {7}, new int[] {11, 13, 14});
    thereAndBack(3, 6, 9, new int[] {7, 14}, new int[] {11, 13});
    thereAndBack(4, 15, 16, new int[] {15}, new int[] {23, 27, 29, 30});
    thereAndBack(4, 14, 17, new int[] {15, 30}, new int[] {23, 27, 29});
    // With bodies that have none, or not all, of a.
    thereAndBack(3, 7, 8, new int[] {7, 224}, new int[] {11, 13, 14, 224});
    thereAndBack(3, 6, 9, new int[] {7, 14, 112, 224}, new int[] {11, 13, 112, 224});
    thereAndBack(4, 14, 17, new int[] {15, 30, 232, 240}, new int[] {23, 27, 29, 232, 240});
  }

  private static void thereAndBack(int k, int a, int b, int[] before, int[] behind) {
    FaceFlips x = of(k, before);
    due("flipOf(.., 1)", x.flipOf(x.number(a), 1), b);
    due("flip of " + a, x.flip(x.number(a)), behind.length);
    has("flip of " + a, x, behind);
    due("flip of " + b, x.flip(x.number(b)), before.length);
    has("flip of " + b, x, before);
  }

  private static void other() {
    edge("2", "Its OTHER is the FLIP, behind it, of b and a.");
    FaceFlips x = of(3, 7, 14);
    // Behind them flips are of 9, 11, 13; of 6, 14, 16 ..; of 6, 7, 16 ..
    due("other(6)", x.other(6), 0);
    due("other(7)", x.other(7), 2);
    due("other(14)", x.other(14), 2);
    // Point 1 goes: of the triangle that comes the flip is with 1 then if 0 is there, and else with 0.
    due("other(2), point 0 is there", of(3, 14, 22, 26, 193).other(2), 0);
    due("other(2), point 0 isn't", of(3, 14, 22, 26).other(2), NOT);
    due("other(1)", of(3, 7, 11, 13).other(1), 0);
    due("other(1) of 4", of(4, 15, 23, 27, 29).other(1), 0);
    due("other(2) of 4, point 0 isn't there", of(4, 30, 46, 54, 58).other(2), NOT);
    due("other(6) of 4, where no point goes", of(4, 30, 46, 54).other(6), 0);
  }

  private static void cone() {
    edge("2", "CONE of a POINT that isn't THERE: of each WALL and it together a BODY comes.");
    FaceFlips x = of(3);
    due("no walls", x.cone(3), 0);
    due("it isn't there", x.heap(2), 0);
    x.make(1);
    due("cone(2), it is there", x.cone(2), STATE);
    due("cone(3)", x.cone(3), 4);
    has("a sphere", x, 7, 11, 13, 14);
    due("cone(7), no walls", x.cone(7), 4);
    due("point 7 isn't there", x.heap(2), 15);
    // Seven triangles, each two of seven points in just one of them: 21 walls.
    x = of(3, 7, 25, 97, 42, 82, 76, 52);
    due("walls", x.heap(3), 21);
    due("cone(7)", x.cone(7), 28);
    due("walls behind it", x.heap(3), 0);
    due("heap(5)", x.heap(5), 108);
    due("cone(0) of the last ball", of(3, 224).cone(0), 4);
    x = of(4, 15, 30);
    due("cone(7) of 4", x.cone(7), 8);
    has("all but the triangle in two", x, 15, 30, 135, 139, 141, 150, 154, 156);
  }

  private static void shells(FaceFlips x, int want, int... told) {
    due("shelled() of " + Arrays.toString(told), tell(x, 0, told).shelled(0), want);
  }

  private static void shelled() {
    edge("2", "SHELLED: a LIST tells BODIES by their numbers, one behind the other: one fits those told ahead, if all"
        + " that it has in common with any one of them lies within K less 1 of its POINTS that it has in common with one"
        + " of them (the first one fits).");
    shells(of(3, 7, 56), NOT, 0);
    shells(of(3, 7, 56), NOT, 1);
    shells(of(3, 7, 14), NOT, 0, 1);
    shells(of(3, 7, 28), 1, 0, 1);
    shells(of(3, 7, 28), 1, 1, 0);
    shells(of(3, 7, 56), 1, 0, 1);
    shells(of(3, 7, 56), 1, 1, 0);
    shells(of(4, 15, 30), NOT, 1, 0);
    shells(of(4, 15, 60), 1, 0, 1);
    shells(of(4, 15, 240), 1, 1, 0);
    // The third has an edge in common with the second; what it has with the first lies within it, or does not.
    shells(of(3, 7, 14, 28), NOT, 0, 1, 2);
    shells(of(3, 7, 14, 44, 41), 3, 0, 1, 3, 2);
    // All triangles, the least as bits first: for what one has alone there was a lesser point in one told ahead.
    FaceFlips x = full(3);
    x.list(0, 40);
    for (int i = 0; i < 40; i++) x.put(0, i, i);
    due("shelled() by 40", x.shelled(0), NOT);
    int[] last = {38, 55, 56, -1};
    for (int v : last) {
      // One told already; 567, which has just a point in common with some; none.
      x.put(0, 39, v);
      due("shelled(), the last one " + v, x.shelled(0), 39);
    }
  }

  private static void plans(FaceFlips x, int flips, int bodies, int... told) {
    tell(x, 0, told);
    due("plan(0, 0) of " + Arrays.toString(told), x.plan(0, 0), flips);
    due("plan(0, 1) of " + Arrays.toString(told), x.plan(0, 1), bodies);
  }

  private static void plan() {
    edge("2", "A PLAN: a LIST tells numbers of FLIPS, DONE one behind the other in thought (each number as FLIPS are"
        + " then), till there is none of the number told, or the LIST ends.");
    FaceFlips x = of(3, 7, 14);
    plans(x, 0, 2);
    plans(x, 1, 2, 0);
    plans(x, 1, 4, 2);
    for (int none : new int[] {3, -1, LOW, BIG}) plans(x, 0, 2, none);
    for (int none : new int[] {6, -1, LOW, BIG}) plans(x, 1, 4, 2, none, 0);
    // Behind flip 0 bodies are 11, 13; behind flip 2 of these 11, 21, 25, 28, and flip 0 is of edge 9.
    plans(x, 2, 4, 0, 2);
    plans(x, 3, 4, 0, 2, 0);
    // Behind flip 1 flips are of 6, 14, 16, 19, 21, 22.
    plans(x, 2, 2, 1, 2);
    plans(x, 2, 6, 1, 5);
    plans(x, 1, 4, 1, 6);
    due("in thought", x.heap(1), 2);
    due("count(2)", x.count(2), 2);
    x = made(3, 2);
    x.list(0, 40);
    due("plan of 40", x.plan(0, 0), 40);
    due("a sphere still", x.plan(0, 2), 102);
    x.put(0, 39, BIG);
    due("plan of 40, none of the last", x.plan(0, 0), 39);
    plans(spread(), 0, 14, 0, 0);
    plans(of(3), 0, 0, 0);
  }

  private static void takenBack() {
    edge("2", "THE HEAP, when a FLIP is DONE, when it is MADE, when a CONE comes, and as BODIES come and go by hand, can"
        + " be TAKEN BACK, the latest first, 8 at most");
    FaceFlips x = new FaceFlips();
    due("back() of nothing", x.back(), STATE);
    x.body(7);
    x.flip(0);
    x.cone(7);
    x.body(14);
    x.make(4);
    due("count(2)", x.count(2), 5);
    int[] then = {5, 6, 3, 1, 0, STATE};
    for (int n : then) due("back()", x.back(), n);
    int[] many = {0, 1, 4, 6, 8};
    for (int i = 1; i <= 12; i++) {
      due("make()", x.make(1 + i % 4), many[1 + i % 4]);
      due("count(2) behind " + i, x.count(2), Math.min(i, 8));
    }
    for (int i = 11; i >= 4; i--) {
      due("back() to " + i, x.back(), many[1 + i % 4]);
      due("count(2) at " + i, x.count(2), i - 4);
    }
    due("back() to what is older", x.back(), STATE);
    due("bodies", x.heap(1), many[1]);
    edge("2", "(each that isn't refused counts, also if all stays as it was)");
    x = new FaceFlips();
    x.make(0);
    due("NOTHING made of nothing", x.count(2), 1);
    x.cone(0);
    due("CONE of no walls", x.count(2), 2);
    x.make(2);
    x.make(2);
    due("SPHERE made of a sphere", x.count(2), 4);
    x.cone(7);
    due("CONE of a sphere", x.count(2), 5);
    refused(x, 5);
    int[] stays = {4, 4, 0, 0, 0, STATE};
    for (int n : stays) due("back()", x.back(), n);
    // What is refused puts no older step out.
    x = new FaceFlips();
    for (int i = 0; i < 8; i++) x.make(i == 0 ? 5 : 1);
    refused(x, 8);
    for (int i = 0; i < 6; i++) x.back();
    due("back() to the first", x.back(), 8);
    due("back() to the start", x.back(), 0);
  }

  private static void refused(FaceFlips x, int steps) {
    due("make(6)", x.make(6), NONE);
    due("body(3)", x.body(3), NONE);
    due("flip(-1)", x.flip(-1), NONE);
    due("flip(99)", x.flip(99), NONE);
    due("cone(0)", x.cone(0), STATE);
    due("cone(8)", x.cone(8), NONE);
    due("count(2) behind what is refused", x.count(2), steps);
  }

  private static void leaveNone() {
    edge("2", "; take(), a K that is told, words without FAULT, undo() leave none, where they aren't refused.");
    FaceFlips x = made(3, 1);
    due("take(0), refused", x.take(0), NONE);
    due("bodies(5), refused", x.bodies(5), BAD);
    due("undo(), refused", x.undo(), STATE);
    due("words with a FAULT", say(x, "ball nothing "), -113);
    due("no words", x.read(), -100);
    due("keep()", x.keep(), 0);
    due("image()", x.image(), 1);
    due("count(2) with all these", x.count(2), 1);
    due("take(0)", x.take(0), 1);
    leftNone(x);
    due("bodies(3), as it was", x.bodies(3), 3);
    leftNone(x);
    due("words that are refused", say(x, "flip0 take3"), 0);
    leftNone(x);
    due("words that change nothing", say(x, "keep"), 1);
    leftNone(x);
    due("undo()", x.undo(), 1);
    leftNone(x);
  }

  private static void leftNone(FaceFlips x) {
    due("count(2) then", x.count(2), 0);
    due("back() then", x.back(), STATE);
    x.make(2);
    x.make(0);
    due("count(2) on", x.count(2), 2);
  }

  private static void kept() {
    edge("2", "KEPT heaps 0 .. 3 (4 at most; with their K).");
    FaceFlips x = of(4);
    due("kept(0, 0) of none", x.kept(0, 0), NONE);
    due("take(0) of none", x.take(0), NONE);
    int[] k = {4, 3, 4, 3};
    int[] many = {1, 4, 5, 8};
    for (int i = 0; i < 4; i++) {
      x.bodies(k[i]);
      x.make(i + 1);
      due("keep()", x.keep(), i);
      due("kept(" + i + ", 0)", x.kept(i, 0), k[i]);
      due("kept(" + (i + 1) + ", 0)", x.kept(i + 1, 0), NONE);
      due("count(1)", x.count(1), i + 1);
    }
    x.make(0);
    due("keep() of a fifth", x.keep(), FULL);
    due("count(1)", x.count(1), 4);
    for (int i = 0; i < 4; i++) {
      due("take(" + i + ")", x.take(i), many[i]);
      due("heap(0)", x.heap(0), k[i]);
    }
  }

  private static void chains(FaceFlips x, int kept, int least, int... path) {
    String call = "chain(" + kept + ", " + least + ", ";
    due(call + "-1)", x.chain(kept, least, -1), path.length);
    for (int i = 0; i < path.length; i++) due(call + i + ")", x.chain(kept, least, i), path[i]);
    for (int i : new int[] {path.length, 3, 4, BIG}) due(call + i + ")", x.chain(kept, least, i), NOT);
  }

  private static void noChain(FaceFlips x, int kept, int least) {
    for (int i : new int[] {-1, 0, 1, BIG}) due("chain(" + kept + ", " + least + ", " + i + ")", x.chain(kept, least, i), NOT);
  }

  private static void chain() {
    edge("2", "CHAIN from THE HEAP to one of them (of the same K): the fewest FLIPS, 3 at most, DONE one behind the other,"
        + " by which THE HEAP has just its BODIES");
    for (int k = 3; k < 5; k++) {
      FaceFlips x = made(k, 1);
      x.keep();
      for (int n = 0; n < 4; n++) {
        due("chain(0, 1, -1) behind " + n, x.chain(0, 1, -1), n);
        due("chain(0, 2, -1) behind " + n, x.chain(0, 2, -1), n);
        due("chain(0, 1, " + n + ") behind " + n, x.chain(0, 1, n), NOT);
        x.flip(x.flips(0) - 1);
      }
      noChain(x, 0, 1);
      noChain(x, 0, 2);
      x.keep();
      x.make(1);
      noChain(x, 1, 1);
      // On to it from one flip nearer.
      x.flip(x.flips(0) - 1);
      due("chain(1, 1, -1) of three", x.chain(1, 1, -1), 3);
    }
    FaceFlips x = of(3);
    x.keep();
    chains(x, 0, 1);
    chains(x, 0, 2);
    x.make(1);
    noChain(x, 0, 1);
    x.bodies(4);
    due("nothing of 4", x.chain(0, 1, -1), STATE);
    // One body more, or one less, is not just its bodies.
    x = of(3, 7, 224);
    x.keep();
    x.body(224);
    noChain(x, 0, 1);
    x.keep();
    x.body(224);
    noChain(x, 1, 1);
    chains(x, 0, 1);
  }

  private static void chainOfSorts() {
    edge("2", ": with any, or without those of SORT 1");
    FaceFlips x = made(3, 1);
    x.keep();
    x.flip(0);
    x.keep();
    chains(x, 0, 1, 0);
    chains(x, 0, 2, 0);
    x.make(1);
    chains(x, 1, 1, 0);
    noChain(x, 1, 2);
    // Bodies 7, 13, 28: flips are of 5, of 7, of 12 and so on: the numbers are those among all of them.
    x = of(3, 7, 13, 28);
    x.keep();
    isFlip(x, 0, 5, 10, 2);
    isFlip(x, 1, 7, 32, 1);
    isFlip(x, 2, 12, 17, 2);
    x.flip(2);
    x.keep();
    x.take(0);
    chains(x, 1, 1, 2);
    chains(x, 1, 2, 2);
    // Two bodies of four, three, and three with a point more.
    x = of(4, 15, 30);
    x.keep();
    x.flip(0);
    x.keep();
    x.flip(x.number(23));
    x.keep();
    x.take(0);
    chains(x, 1, 2, 0);
    due("chain(2, 1, -1)", x.chain(2, 1, -1), 2);
    noChain(x, 2, 2);
    x.take(2);
    due("chain(0, 2, -1), the point goes", x.chain(0, 2, -1), 2);
  }

  private static void chainFirst() {
    edge("2", "; of several the first by the number of the first FLIP, then of the second, and so on.");
    // Three pairs of triangles of the row, each flipped by itself; flips are of edges 6, 12, 24, 48, 96 at first,
    // of 9, 12, 24, 48, 96 behind the first, of 9, 12, 36, 48, 96 behind the second.
    FaceFlips x = made(3, 3);
    x.keep();
    for (int a : new int[] {96, 24, 6}) x.flip(x.number(a));
    has("flipped", x, 11, 13, 44, 52, 176, 208);
    x.keep();
    // Back flips are of edges 9, 12, 36, 48, 144, and behind each of the three two of them are others.
    chains(x, 0, 1, 0, 2, 4);
    chains(x, 0, 2, 0, 2, 4);
    x.take(0);
    chains(x, 1, 1, 0, 2, 4);
    chains(x, 1, 2, 0, 2, 4);
    x.flip(x.number(24));
    chains(x, 1, 1, 0, 4);
    x.flip(x.number(6));
    chains(x, 1, 1, 4);
  }

  private static int alikeOf(FaceFlips x, int k, int... sets) {
    x.keep();
    x.bodies(k);
    for (int s : sets) x.body(s);
    x.keep();
    int answer = x.alike(0, 1);
    due("alike(1, 0)", x.alike(1, 0), answer);
    due("alike(0, 0)", x.alike(0, 0), 1);
    due("alike(1, 1)", x.alike(1, 1), 1);
    return answer;
  }

  private static void alike() {
    edge("2", "Two KEPT heaps are ALIKE, if POINTS can be named anew, each otherwise, so that the BODIES of the one are"
        + " those of the other (of unlike K: not).");
    due("nothing and nothing", alikeOf(of(3), 3), 1);
    due("nothing and nothing of 4", alikeOf(of(3), 4), 0);
    due("nothing and a ball", alikeOf(of(3), 3, 7), 0);
    due("the first and the last ball", alikeOf(of(3, 7), 3, 224), 1);
    due("the first and the last ball of 4", alikeOf(of(4, 15), 4, 240), 1);
    due("a ball and two that share an edge", alikeOf(of(3, 7), 3, 7, 11), 0);
    due("two that share an edge, a point", alikeOf(of(3, 7, 14), 3, 7, 28), 0);
    due("two that share a point, none", alikeOf(of(3, 7, 28), 3, 7, 56), 0);
    due("two that share an edge, by the last points", alikeOf(of(3, 7, 14), 3, 224, 208), 1);
    // Row and fan of four triangles; all points but one there; all of them.
    due("row and fan", alikeOf(of(3, 7, 14, 28, 56), 3, 7, 13, 25, 49), 0);
    due("seven points", alikeOf(of(3, 7, 14, 28, 56, 112), 3, 224, 112, 56, 28, 14), 1);
    due("eight points", alikeOf(of(3, 7, 56, 224), 3, 224, 28, 7), 1);
    FaceFlips x = full(3);
    x.body(7);
    x.keep();
    x.body(56);
    x.keep();
    x.body(56);
    x.body(14);
    x.keep();
    x.body(7);
    x.keep();
    due("all but 7, all but 14", x.alike(0, 3), 1);
    due("all but 7, all but 7 and 14", x.alike(0, 2), 0);
    due("all but 7 and 56, all but 7 and 14", x.alike(1, 2), 0);
  }

  private static void common() {
    edge("2", "COMMON: how many BODIES two have both.");
    FaceFlips x = full(4);
    x.keep();
    x.make(5);
    x.keep();
    x.make(0);
    x.keep();
    x.bodies(3);
    x.make(5);
    x.keep();
    due("all and all", x.common(0, 0), 70);
    due("all and sixteen", x.common(0, 1), 16);
    due("sixteen and all", x.common(1, 0), 16);
    due("all and none", x.common(0, 2), 0);
    due("none and none", x.common(2, 2), 0);
    due("of unlike K", x.common(1, 3), 0);
    due("all and those of unlike K", x.common(3, 0), 0);
  }

  private static void fewers(String what, FaceFlips x, int flips, int bodies) {
    due("fewer(0): " + what, x.fewer(0), flips);
    due("fewer(1): " + what, x.fewer(1), bodies);
  }

  private static void fewer() {
    edge("2", "FEWER: as long as there is a FLIP by which there are fewer BODIES, the first such is DONE, in thought: how"
        + " many FLIPS; how many BODIES then.");
    fewers("no bodies", of(3), 0, 0);
    fewers("3 for 1 are more", of(3, 7), 0, 1);
    fewers("2 for 2 are as many", of(3, 7, 14), 0, 2);
    fewers("1 for 3", of(3, 11, 13, 14), 1, 1);
    fewers("3 for 2 of 4 are more", of(4, 15, 30), 0, 2);
    fewers("2 for 3 of 4", of(4, 23, 27, 29), 1, 2);
    fewers("1 for 4 of 4", of(4, 23, 27, 29, 30), 1, 1);
    fewers("a sphere", made(4, 2), 0, 5);
    fewers("all", full(4), 0, 70);
    fewers("two", of(3, STARS), 2, 2);
    // As many points as can be put in, one by one.
    for (int k = 3; k < 5; k++) {
      FaceFlips x = made(k, 1);
      for (int n = k; n < 8; n++) x.flip(x.flips(0) - 1);
      due("heap(2)", x.heap(2), 255);
      fewers("all points put in", x, 8 - k, 1);
      due("in thought", x.heap(1), 1 + (8 - k) * (k - 1));
    }
    // Two for three around edge 24, then around 10; had 66, the other one, come first, there would be six bodies.
    FaceFlips x = of(4, 27, 43, 53, 89, 90, 106, 114);
    isFlip(x, 0, 24, 67, 3);
    due("flips(3)", x.flips(3), 2);
    fewers("the first of two", x, 2, 5);
    x.flip(x.number(66));
    fewers("the other of two", x, 0, 6);
  }

  private static void walks(FaceFlips x, int n, int z, int bodies, int points, int euler) {
    String call = "walk(" + n + ", " + z + ", ";
    due(call + "0)", x.walk(n, z, 0), bodies);
    due(call + "1)", x.walk(n, z, 1), points);
    due(call + "2)", x.walk(n, z, 2), euler);
  }

  private static void walk() {
    edge("2", "WALK of n (0 .. 20) FLIPS with a seed z, in thought: the FLIP with the number that is a DRAW below how many"
        + " there are is DONE (none: nothing): BODIES then; POINTS that are THERE then (bits); EULER then.");
    FaceFlips x = of(3, STARS);
    due("walk(-1, 0, 0)", x.walk(-1, 0, 0), BAD);
    due("walk(21, 0, 0)", x.walk(21, 0, 0), BAD);
    walks(x, 0, 65536, 6, 255, 102);
    walks(x, 1, 6, 4, 247, 102);
    walks(x, 2, 6, 6, 255, 102);
    has("in thought", x, STARS);
    due("count(2)", x.count(2), 6);
    walks(of(3), 20, 5, 0, 0, 100);
    walks(spread(), 20, 5, 14, 255, 122);
    walks(full(3), 20, LOW, 56, 255, 136);
    // Each walk is as so many flips by hand are, to the twentieth.
    for (int z : new int[] {0, 7, -1, LOW, BIG, 271828182}) {
      for (int k = 3; k < 5; k++) {
        FaceFlips from = made(k, k);
        FaceFlips by = made(k, k);
        int seed = z;
        for (int n = 0; n <= 20; n++) {
          walks(from, n, z, by.heap(1), by.heap(2), by.heap(5));
          long wide = seed * 1103515245L + 12345L;
          seed = (int) wide;
          if (by.flips(0) > 0) by.flip((int) ((wide & 0x7fffffffL) / 65536L % by.flips(0)));
        }
      }
    }
  }

  private static void draw() {
    edge("2", "A DRAW below m: z becomes z times 1103515245 plus 12345 (an int, wrapping); (z without its sign's bit, over"
        + " 65536, cut) modulo m.");
    // Below 2; each seed becomes the number behind it: flip 0 takes point 3 out, flip 1 point 7.
    FaceFlips x = of(3, STARS);
    int[][] seeds = {{-59267453, 0, 0}, {-115164386, 65535, 0}, {-404969853, 65536, 1}, {-460866786, 131071, 1},
        {-750672253, 131072, 0}, {-1916945634, BIG, 1}, {2088216195, LOW, 0}, {2032319262, LOW + 65535, 0},
        {1742513795, LOW + 65536, 1}, {230538014, -1, 1}, {576240414, -65537, 0}, {286434947, -65536, 1}};
    for (int[] s : seeds) {
      due("z " + s[0] + " becomes", s[0] * 1103515245 + 12345, s[1]);
      walks(x, 1, s[0], 4, s[2] == 0 ? 247 : 127, 102);
    }
    // The second draw is below 5; its seed is what the first one's became.
    int[][] two = {{0, 255}, {1, 255}, {3, 255}, {6, 255}, {7, 119}, {-1, 255}, {-3, 119}, {-4, 255}, {LOW, 255}, {BIG, 255}};
    for (int[] t : two) walks(x, 2, t[0], t[1] == 255 ? 6 : 2, t[1], 102);
    // Below 1, a draw is 0, whatever the seed.
    for (int z : new int[] {0, -1, LOW, BIG, 65536}) walks(made(4, 1), 1, z, 4, 31, 101);
  }

  private static void olderSteps() {
    edge("doubt", "a step older than the last 8 can't be TAKEN BACK, also if others were.");
    FaceFlips x = new FaceFlips();
    for (int i = 0; i < 10; i++) x.make(i < 2 ? 1 : 2);
    for (int i = 0; i < 3; i++) x.back();
    due("count(2), three of eight taken back", x.count(2), 5);
    for (int i = 0; i < 4; i++) due("back()", x.back(), 4);
    due("back() to behind the second", x.back(), 1);
    due("back() to what is older", x.back(), STATE);
    x.make(3);
    due("count(2), all taken back, one more done", x.count(2), 1);
    // Six are left and three are done: of nine the last eight.
    x = new FaceFlips();
    for (int i = 0; i < 8; i++) x.make(i < 1 ? 1 : 2);
    x.back();
    x.back();
    due("count(2), two taken back", x.count(2), 6);
    for (int i = 0; i < 3; i++) x.make(3);
    due("count(2), three more done", x.count(2), 8);
    int[] then = {6, 6, 4, 4, 4, 4, 4, 1, STATE};
    for (int n : then) due("back()", x.back(), n);
  }
}
