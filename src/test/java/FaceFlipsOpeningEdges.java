import java.util.ArrayList;
import java.util.Arrays;
import java.util.List;

/** The document's opening words: what they say of heaps as a whole, held on heaps that are come to by drawn flips. */
final class FaceFlipsOpeningEdges extends FaceFlipsDue {
  private static int seed = 1;

  static void run() {
    bodies();
    numbersThatStay();
    flips();
    undoneByOther();
    moveByMove();
    otherNames();
    fewer();
    walks();
    readAndSpelled();
    judged();
    takenBack();
    image();
  }

  // ---- heaps

  private static int draw(int below) {
    seed = seed * 1103515245 + 12345;
    return (seed >>> 8) % below;
  }

  private static int[] sets(FaceFlips x) {
    int[] all = new int[x.count(0)];
    for (int i = 0; i < all.length; i++) all[i] = x.bodyOf(i);
    return all;
  }

  private static String told(FaceFlips x) {
    return x.heap(0) + " " + Arrays.toString(sets(x));
  }

  /** Heaps with flips in them: of each kind some flips on, and of bodies drawn freely. */
  private static List<int[]> drawn(int k) {
    List<int[]> heaps = new ArrayList<>();
    for (int kind = 1; kind < 6; kind++) {
      for (int many = 0; many < 12; many += 3) {
        FaceFlips x = made(k, kind);
        for (int n = 0; n < many && x.flips(0) > 0; n++) x.flip(draw(x.flips(0)));
        heaps.add(sets(x));
      }
    }
    for (int many = 2; many < 20; many += 2) {
      FaceFlips x = of(k);
      for (int n = 0; n < many; n++) x.body(setOf(k));
      heaps.add(sets(x));
    }
    return heaps;
  }

  private static int setOf(int k) {
    int set = 0;
    for (int n = 0; Integer.bitCount(set) < k && n < 1000; n++) set |= 1 << draw(8);
    return set;
  }

  // ---- what the words say

  private static void bodies() {
    edge("what", "Bodies glued by faces: triangles or bodies of four points, made of kinds, told one by one");
    for (int k = 3; k < 5; k++) {
      for (int kind = 0; kind < 6; kind++) {
        FaceFlips x = made(k, kind);
        for (int s : sets(x)) due("points of a body", Integer.bitCount(s), k);
        due("a kind, told one by one", told(of(k, sets(x))), told(x));
      }
    }
  }

  private static void numbersThatStay() {
    edge("what", "; faces, walls, links, numbers that stay");
    for (int k = 3; k < 5; k++) {
      for (int[] heap : drawn(k)) {
        FaceFlips x = of(k, heap);
        due("EULER", x.heap(5), 100 + x.faces(1) - x.faces(2) + x.faces(3) - x.faces(4));
        for (int i = 0; i < x.heap(3); i++) {
          int wall = x.wall(i);
          due("points of a WALL", Integer.bitCount(wall), k - 1);
          due("bodies of a WALL", x.face(wall, 1), 1);
          due("sets of its LINK", x.face(wall, 2), 2);
          due("points of its LINK", Integer.bitCount(x.face(wall, 3)), 1);
        }
        int many = x.flips(0);
        for (int i = 0; i < many; i++) {
          FaceFlips y = of(k, heap);
          y.flip(i);
          for (int what = 3; what < 8; what++) {
            due("heap(" + what + ") behind flip " + i + " of " + told(x), y.heap(what), x.heap(what));
          }
        }
      }
    }
  }

  private static void flips() {
    edge("what", "; flips that take some bodies for others on the same points, with one, two or more of them, with a point"
        + " put in or taken out");
    int[][] seen = new int[5][5];
    for (int k = 3; k < 5; k++) {
      for (int[] heap : drawn(k)) {
        FaceFlips x = of(k, heap);
        for (int i = 0; i < x.flips(0); i++) {
          FaceFlips y = of(k, heap);
          int a = y.flipOf(i, 0);
          int b = y.flipOf(i, 1);
          int sort = y.flipOf(i, 2);
          seen[k][sort]++;
          y.flip(i);
          int gone = 0;
          int stay = 0;
          for (int s : heap) {
            boolean goes = y.face(s, 0) == 0;
            due("a body goes that has all of a", goes ? 1 : 0, (s & a) == a ? 1 : 0);
            if (goes) gone++;
            else stay++;
          }
          due("bodies that go", gone, sort);
          due("bodies that come", y.heap(1) - stay, k + 1 - sort);
          for (int s : sets(y)) if (x.face(s, 0) == 0) due("one that comes, its points", s & ~(a | b) | b & ~s, 0);
          int then = sort == 1 ? x.heap(2) | b : sort == k ? x.heap(2) & ~a : x.heap(2);
          due("points then", y.heap(2), then);
        }
      }
      for (int sort = 1; sort <= k; sort++) due("flips of sort " + sort + " were seen", seen[k][sort] > 0 ? 1 : 0, 1);
    }
  }

  private static void undoneByOther() {
    edge("what", "; each flip undone by its other");
    int none = 0;
    for (int k = 3; k < 5; k++) {
      for (int[] heap : drawn(k)) {
        int many = of(k, heap).flips(0);
        for (int i = 0; i < many; i++) {
          FaceFlips x = of(k, heap);
          int a = x.flipOf(i, 0);
          int b = x.flipOf(i, 1);
          int other = x.other(a);
          x.flip(i);
          if (other == NOT) {
            // Where a point went and a lesser one isn't there, the body that came is flipped with that one.
            due("a point went", Integer.bitCount(a), 1);
            due("a lesser one isn't there", (~x.heap(2) & (a - 1)) != 0 ? 1 : 0, 1);
            due("the flip of b is with that one", x.flipOf(x.number(b), 1) < a ? 1 : 0, 1);
            none++;
            continue;
          }
          due("a of the other", x.flipOf(other, 0), b);
          due("b of the other", x.flipOf(other, 1), a);
          x.flip(other);
          due("undone by its other", told(x), told(of(k, heap)));
        }
      }
    }
    due("flips without another were seen", none > 0 ? 1 : 0, 1);
  }

  private static void moveByMove() {
    edge("what", "; the fewest flips from one heap to another, with or without a point put in, move by move");
    int[] seen = new int[4];
    for (int k = 3; k < 5; k++) {
      for (int[] heap : drawn(k)) {
        for (int least = 1; least < 3; least++) {
          FaceFlips x = of(k, heap);
          x.keep();
          boolean back = true;
          int astray = 1 + draw(3);
          for (int n = 0; n < astray && x.flips(0) > 0; n++) {
            int i = draw(x.flips(0));
            back &= x.other(x.flipOf(i, 0)) != NOT && (least == 1 || Integer.bitCount(x.flipOf(i, 0)) > 1);
            x.flip(i);
          }
          int length = x.chain(0, least, -1);
          if (back) due("a chain of the others", length >= 0 && length <= astray ? 1 : 0, 1);
          if (length >= 0) seen[length]++;
          for (int left = length; left > 0; left--) {
            due("flips left", x.chain(0, least, -1), left);
            int i = x.chain(0, least, 0);
            due("the flip there is", i >= 0 && i < x.flips(0) ? 1 : 0, 1);
            if (least == 2) due("sort 1 without it", x.flipOf(i, 2) == 1 ? 1 : 0, 0);
            // A chain's later flips are those of the chain from behind its first one.
            int next = x.chain(0, least, 1);
            x.flip(i);
            due("the second one", next, left > 1 ? x.chain(0, least, 0) : NOT);
          }
          if (length >= 0) due("the kept heap", told(x), told(of(k, heap)));
        }
      }
    }
    for (int length = 1; length < 4; length++) due("chains of " + length + " were seen", seen[length] > 0 ? 1 : 0, 1);
  }

  private static void otherNames() {
    edge("what", "; heaps kept, alike by other names for points");
    for (int k = 3; k < 5; k++) {
      for (int[] heap : drawn(k)) {
        int[] names = {0, 1, 2, 3, 4, 5, 6, 7};
        for (int p = 7; p > 0; p--) {
          int q = draw(p + 1);
          int was = names[p];
          names[p] = names[q];
          names[q] = was;
        }
        FaceFlips x = of(k, heap);
        x.keep();
        x.bodies(k);
        int both = 0;
        for (int s : heap) {
          int then = 0;
          for (int p = 0; p < 8; p++) if ((s >> p & 1) == 1) then |= 1 << names[p];
          x.body(then);
          for (int t : heap) if (t == then) both++;
        }
        x.keep();
        due("alike(0, 1)", x.alike(0, 1), 1);
        due("alike(1, 0)", x.alike(1, 0), 1);
        due("common(0, 1)", x.common(0, 1), both);
        // One body less is as little alike as one of the other K.
        x.body(x.bodyOf(0) == NOT ? (1 << k) - 1 : x.bodyOf(0));
        x.keep();
        due("alike(0, 2)", x.alike(0, 2), 0);
        due("common(1, 2)", x.common(1, 2), Math.min(x.kept(1, 1), x.kept(2, 1)));
      }
    }
  }

  private static void fewer() {
    edge("what", "; bodies made fewer as long as it goes");
    int done = 0;
    for (int k = 3; k < 5; k++) {
      for (int[] heap : drawn(k)) {
        FaceFlips x = of(k, heap);
        int flips = x.fewer(0);
        int bodies = x.fewer(1);
        for (int left = flips; left > 0; left--) {
          due("flips left", x.fewer(0), left);
          int before = x.heap(1);
          int i = 0;
          for (int n = x.flips(0) - 1; n >= 0; n--) if (2 * x.flipOf(n, 2) > k + 1) i = n;
          due("fewer then", x.flip(i) < before ? 1 : 0, 1);
          done++;
        }
        due("fewer(0) at last", x.fewer(0), 0);
        due("bodies at last", x.heap(1), bodies);
        for (int i = 0; i < x.flips(0); i++) due("fewer by none", 2 * x.flipOf(i, 2) > k + 1 ? 1 : 0, 0);
      }
    }
    due("some were made fewer", done > 0 ? 1 : 0, 1);
  }

  private static void walks() {
    edge("what", "; walks by seeds");
    for (int k = 3; k < 5; k++) {
      for (int[] heap : drawn(k)) {
        FaceFlips x = of(k, heap);
        int z = draw(1 << 20) - (1 << 19);
        int n = draw(21);
        int[] then = {x.walk(n, z, 0), x.walk(n, z, 1), x.walk(n, z, 2)};
        for (int i = 0; i < n && x.flips(0) > 0; i++) {
          z = z * 1103515245 + 12345;
          x.flip((int) ((z & 0x7fffffffL) / 65536 % x.flips(0)));
        }
        due("bodies", then[0], x.heap(1));
        due("points", then[1], x.heap(2));
        due("EULER", then[2], x.heap(5));
      }
    }
  }

  private static void readAndSpelled() {
    edge("what", "; heaps read from words and spelled");
    for (int k = 3; k < 5; k++) {
      for (int[] heap : drawn(k)) {
        FaceFlips x = of(k, heap);
        if (heap.length > 11) continue;
        x.spell();
        String paper = paperOf(x);
        String words = k == 3 ? "three" : "four";
        if (heap.length > 0) words += " body" + paper.replace(" ", " body");
        FaceFlips y = made(7 - k, 5);
        due("words done", say(y, words), 1 + heap.length);
        due("what was read", told(y), told(x));
        y.spell();
        due("what it spells", paperOf(y), paper);
      }
    }
  }

  private static void judged() {
    edge("what", ", judged by lists");
    for (int k = 3; k < 5; k++) {
      for (int[] heap : drawn(k)) {
        if (heap.length > 39) continue;
        FaceFlips x = tell(of(k, heap), 2, heap);
        due("judge(2)", x.judge(2), NOT);
        tell(x, 2, Arrays.copyOf(heap, heap.length + 1));
        due("judge(2), one more", x.judge(2), heap.length);
        if (heap.length == 0) continue;
        int place = draw(heap.length);
        tell(x, 2, Arrays.copyOf(heap, place));
        due("judge(2), fewer", x.judge(2), place);
        tell(x, 2, heap).put(2, place, -heap[place]);
        due("judge(2), one otherwise", x.judge(2), place);
      }
    }
  }

  private static void takenBack() {
    edge("what", ", steps taken back");
    for (int k = 3; k < 5; k++) {
      for (int[] heap : drawn(k)) {
        FaceFlips x = of(k, heap);
        List<String> before = new ArrayList<>();
        for (int n = 0; n < 8; n++) {
          before.add(told(x));
          int way = draw(4);
          if (way == 0 || x.flips(0) == 0) x.body(setOf(k));
          else if (way > 1 || x.heap(2) == 255) x.flip(draw(x.flips(0)));
          else x.cone(Integer.numberOfTrailingZeros(~x.heap(2)));
        }
        for (int n = 7; n >= 0; n--) {
          x.back();
          due("step " + n + " taken back", told(x), before.get(n));
        }
        due("back()", x.back(), STATE);
      }
    }
  }

  private static void image() {
    edge("what", ", an image.");
    for (int k = 3; k < 5; k++) {
      for (int[] heap : drawn(k)) {
        FaceFlips x = of(k, heap);
        x.keep();
        due("image()", x.image(), heap.length);
        x.bodies(7 - k);
        x.make(5);
        x.keep();
        for (int n = 0; n < 2; n++) {
          due("undo()", x.undo(), heap.length);
          due("as the image", told(x), told(of(k, heap)));
          due("kept heaps", x.count(1), 1);
          x.cone(7);
        }
      }
    }
  }
}
