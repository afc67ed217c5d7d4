import java.util.ArrayList;
import java.util.List;

/** The row of answers: which of two comes first, and that what is refused, or asked, leaves all as it was. */
final class FaceFlipsAnswerEdges extends FaceFlipsDue {
  private interface Call {
    long on(FaceFlips x);
  }

  private record Told(String name, Call call, long want) {
  }

  static void run() {
    names();
    firstNamed();
    changesNothing();
    asked();
  }

  private static void names() {
    edge("answers", "NONE (-1) no such number, no set of POINTS as told; BAD (-2) a number is not as told; STATE (-3) as"
        + " told; FULL (-4); NOT (-5) as told");
    due("NONE", FaceFlips.NONE, -1);
    due("BAD", FaceFlips.BAD, -2);
    due("STATE", FaceFlips.STATE, -3);
    due("FULL", FaceFlips.FULL, -4);
    due("NOT", FaceFlips.NOT, -5);
  }

  private static void firstNamed() {
    edge("answers", "; the first that a call's words name.");
    FaceFlips x = full();
    FaceFlips none = new FaceFlips();
    due("walk: n and what", x.walk(21, 0, 3), BAD);
    due("walk: n and what", x.walk(-1, 0, -1), BAD);
    due("feed: a sign, and full", x.feed(128), BAD);
    due("feed: a sign, and full", x.feed(-1), BAD);
    due("chain: kept and least", x.chain(4, 3, -1), NONE);
    due("chain: kept, least and i", none.chain(0, 0, -2), NONE);
    due("chain: i and least", x.chain(0, 3, -2), NONE);
    due("chain: i and K", x.chain(1, 1, -2), NONE);
    due("chain: least and K", x.chain(1, 3, -1), BAD);
    due("chain: K alone", x.chain(1, 2, -1), STATE);
    due("plan: what and nothing", none.plan(0, 3), NONE);
    due("plan: list and what", none.plan(4, 3), NONE);
    due("plan: nothing alone", none.plan(0, 2), NOTHING);
    due("list: list and above 40", none.list(4, 41), NONE);
    due("list: list and below 0", none.list(-1, -1), NONE);
    due("put: list and place", x.put(4, -1, 0), NONE);
    due("put: nothing and place", none.put(3, -1, 0), NOTHING);
    due("copy: lists and nothing", none.copy(0, 0, 4, 0, 0), NONE);
    due("copy: lists and nothing", none.copy(4, 0, 0, 0, 0), NONE);
    due("copy: lists and place", x.copy(0, -1, 4, 0, 0), NONE);
    due("copy: nothing and place", none.copy(0, -1, 1, -1, -1), NOTHING);
    due("cone: a point that is none", x.cone(8), NONE);
    due("flipOf: both", none.flipOf(0, 3), NONE);
    due("face: both", none.face(0, 4), NONE);
    due("kept: both", none.kept(0, 4), NONE);
  }

  // ---- states, each built anew for each call

  private static FaceFlips some() {
    FaceFlips x = made(3, 2);
    x.keep();
    x.bodies(4);
    x.make(1);
    x.keep();
    x.take(0);
    x.image();
    x.flip(0);
    x.cone(7);
    x.spell();
    feed(x, "ball 7");
    tell(x, 0, 7, 11);
    tell(x, 1);
    return tell(x, 3, 3, 2, 1);
  }

  /** Four heaps are kept, eight steps known, the text is full, all lists have 40 places; there is no image. */
  private static FaceFlips full() {
    FaceFlips x = made(3, 1);
    x.bodies(4);
    x.make(5);
    x.keep();
    x.bodies(3);
    x.keep();
    x.make(2);
    x.keep();
    x.bodies(4);
    x.make(1);
    x.keep();
    for (int i = 0; i < 8; i++) x.make(i == 7 ? 5 : i % 2 + 1);
    feed(x, "row flip0 ".repeat(12));
    x.spell();
    for (int l = 0; l < 4; l++) {
      x.list(l, 40);
      x.put(l, 0, l);
      x.put(l, 39, l + 1);
    }
    return x;
  }

  private static void heapOf(StringBuilder b, FaceFlips x) {
    b.append(x.heap(0)).append(':');
    for (int i = 0; i < 71 && x.bodyOf(i) != NOT; i++) b.append(x.bodyOf(i)).append(' ');
    b.append('|');
  }

  /** All that can be asked of an object: it is no more the same then, steps being taken back at the end. */
  private static String all(FaceFlips x) {
    StringBuilder b = new StringBuilder();
    heapOf(b, x);
    for (int what = 0; what < 5; what++) b.append(x.count(what)).append(' ');
    for (int i = 0; i < 4; i++) {
      for (int what = 0; what < 4; what++) b.append(x.kept(i, what)).append(' ');
    }
    for (int l = 0; l < 4; l++) {
      b.append(x.judge(l)).append(' ');
      for (int i : new int[] {0, 1, 2, 3, 39, 40}) b.append(x.get(l, i)).append(' ');
    }
    b.append('|');
    for (int i = 0; i < 24; i++) b.append(x.paper(i)).append(' ');
    for (int i = 0; i < 9; i++) {
      b.append(x.back()).append('>').append(x.bodyOf(0)).append(' ').append(x.bodyOf(4)).append(' ');
    }
    b.append(x.read()).append('|').append(x.undo()).append('|');
    heapOf(b, x);
    b.append(x.count(1));
    return b.toString();
  }

  private interface Maker {
    FaceFlips made();
  }

  private static void leaves(String state, Maker maker, List<Told> calls) {
    String before = all(maker.made());
    for (Told t : calls) {
      FaceFlips x = maker.made();
      due(state + ": " + t.name, t.call.on(x), t.want);
      due(state + ": all behind " + t.name, all(x), before);
    }
  }

  private static void changesNothing() {
    edge("answers", "What is answered so changes nothing");
    leaves("a new one", FaceFlips::new, refusedByAll());
    leaves("a new one", FaceFlips::new, refusedByNew());
    leaves("some", FaceFlipsAnswerEdges::some, refusedByAll());
    leaves("some", FaceFlipsAnswerEdges::some, refusedBySome());
    leaves("full", FaceFlipsAnswerEdges::full, refusedByAll());
    leaves("full", FaceFlipsAnswerEdges::full, refusedByFull());
  }

  private static List<Told> refusedByAll() {
    List<Told> l = new ArrayList<>();
    for (int n : new int[] {-1, LOW, BIG}) {
      l.add(new Told("bodies(" + n + ")", x -> x.bodies(n), BAD));
      l.add(new Told("make(" + n + ")", x -> x.make(n), NONE));
      l.add(new Told("body(" + n + ")", x -> x.body(n), NONE));
      l.add(new Told("heap(" + n + ")", x -> x.heap(n), NONE));
      l.add(new Told("faces(" + n + ")", x -> x.faces(n), BAD));
      l.add(new Told("face(" + n + ", 0)", x -> x.face(n, 0), NONE));
      l.add(new Told("face(1, " + n + ")", x -> x.face(1, n), NONE));
      l.add(new Told("apart(" + n + ", 0)", x -> x.apart(n, 0), NONE));
      l.add(new Told("apart(0, " + n + ")", x -> x.apart(0, n), NONE));
      l.add(new Told("shelled(" + n + ")", x -> x.shelled(n), NONE));
      l.add(new Told("flips(" + n + ")", x -> x.flips(n), BAD));
      l.add(new Told("flipOf(" + n + ", 0)", x -> x.flipOf(n, 0), NONE));
      l.add(new Told("flipOf(0, " + n + ")", x -> x.flipOf(0, n), NONE));
      l.add(new Told("number(" + n + ")", x -> x.number(n), NONE));
      l.add(new Told("flip(" + n + ")", x -> x.flip(n), NONE));
      l.add(new Told("other(" + n + ")", x -> x.other(n), NONE));
      l.add(new Told("plan(" + n + ", 0)", x -> x.plan(n, 0), NONE));
      l.add(new Told("plan(0, " + n + ")", x -> x.plan(0, n), NONE));
      l.add(new Told("cone(" + n + ")", x -> x.cone(n), NONE));
      l.add(new Told("take(" + n + ")", x -> x.take(n), NONE));
      l.add(new Told("kept(" + n + ", 0)", x -> x.kept(n, 0), NONE));
      l.add(new Told("kept(0, " + n + ")", x -> x.kept(0, n), NONE));
      l.add(new Told("chain(" + n + ", 1, -1)", x -> x.chain(n, 1, -1), NONE));
      l.add(new Told("alike(" + n + ", 0)", x -> x.alike(n, 0), NONE));
      l.add(new Told("common(0, " + n + ")", x -> x.common(0, n), NONE));
      l.add(new Told("fewer(" + n + ")", x -> x.fewer(n), NONE));
      l.add(new Told("walk(" + n + ", 0, 0)", x -> x.walk(n, 0, 0), BAD));
      l.add(new Told("walk(3, 0, " + n + ")", x -> x.walk(3, 0, n), NONE));
      l.add(new Told("feed(" + n + ")", x -> x.feed(n), BAD));
      l.add(new Told("paper(" + n + ")", x -> x.paper(n), NONE));
      l.add(new Told("judge(" + n + ")", x -> x.judge(n), NONE));
      l.add(new Told("list(" + n + ", 3)", x -> x.list(n, 3), NONE));
      l.add(new Told("put(" + n + ", 0, 3)", x -> x.put(n, 0, 3), NONE));
      l.add(new Told("get(" + n + ", 0)", x -> x.get(n, 0), Long.MIN_VALUE));
      l.add(new Told("copy(" + n + ", 0, 0, 0, 0)", x -> x.copy(n, 0, 0, 0, 0), NONE));
      l.add(new Told("copy(0, 0, " + n + ", 0, 0)", x -> x.copy(0, 0, n, 0, 0), NONE));
      l.add(new Told("count(" + n + ")", x -> x.count(n), BAD));
    }
    l.add(new Told("bodyOf(-1)", x -> x.bodyOf(-1), NONE));
    l.add(new Told("bodyOf(BIG)", x -> x.bodyOf(BIG), NOT));
    l.add(new Told("wall(-1)", x -> x.wall(-1), NONE));
    l.add(new Told("wall(BIG)", x -> x.wall(BIG), NOT));
    l.add(new Told("number(255)", x -> x.number(255), NOT));
    l.add(new Told("other(255)", x -> x.other(255), NOT));
    l.add(new Told("list(0, 41)", x -> x.list(0, 41), BAD));
    l.add(new Told("list(0, -1)", x -> x.list(0, -1), SIZE));
    return l;
  }

  private static List<Told> refusedByNew() {
    return List.of(
        new Told("bodies(2)", x -> x.bodies(2), BAD),
        new Told("body(15)", x -> x.body(15), NONE),
        new Told("bodyOf(0)", x -> x.bodyOf(0), NOT),
        new Told("apart(0, 0)", x -> x.apart(0, 0), NONE),
        new Told("shelled(0)", x -> x.shelled(0), NOTHING),
        new Told("flips(4)", x -> x.flips(4), BAD),
        new Told("flip(0)", x -> x.flip(0), NONE),
        new Told("plan(0, 0)", x -> x.plan(0, 0), NOTHING),
        new Told("back()", FaceFlips::back, STATE),
        new Told("take(0)", x -> x.take(0), NONE),
        new Told("kept(0, 0)", x -> x.kept(0, 0), NONE),
        new Told("chain(0, 1, -1)", x -> x.chain(0, 1, -1), NONE),
        new Told("read() of no text", FaceFlips::read, -100),
        new Told("paper(0)", x -> x.paper(0), NONE),
        new Told("judge(0)", x -> x.judge(0), NOTHING),
        new Told("put(0, 0, 1)", x -> x.put(0, 0, 1), NOTHING),
        new Told("get(0, 0)", x -> x.get(0, 0), Long.MIN_VALUE),
        new Told("copy(0, 0, 1, 0, 0)", x -> x.copy(0, 0, 1, 0, 0), NOTHING),
        new Told("undo()", FaceFlips::undo, STATE));
  }

  private static List<Told> refusedBySome() {
    return List.of(
        new Told("bodies(5)", x -> x.bodies(5), BAD),
        new Told("make(6)", x -> x.make(6), NONE),
        new Told("body(3)", x -> x.body(3), NONE),
        new Told("body(256 + 3)", x -> x.body(256 + 3), NONE),
        new Told("body(LOW + 7)", x -> x.body(LOW + 7), NONE),
        new Told("face(256, 0)", x -> x.face(256, 0), NONE),
        new Told("flip(flips(0))", x -> x.flip(x.flips(0)), NONE),
        new Told("plan(2, 0)", x -> x.plan(2, 0), NOTHING),
        new Told("cone(0)", x -> x.cone(0), STATE),
        new Told("cone(8)", x -> x.cone(8), NONE),
        new Told("take(2)", x -> x.take(2), NONE),
        new Told("chain(0, 3, -1)", x -> x.chain(0, 3, -1), BAD),
        new Told("chain(0, 1, -2)", x -> x.chain(0, 1, -2), NONE),
        new Told("chain(1, 1, -1)", x -> x.chain(1, 1, -1), STATE),
        new Told("alike(2, 0)", x -> x.alike(2, 0), NONE),
        new Told("common(0, 2)", x -> x.common(0, 2), NONE),
        new Told("feed(128)", x -> x.feed(128), BAD),
        new Told("put(0, 2, 1)", x -> x.put(0, 2, 1), PLACE),
        new Told("put(0, -1, 1)", x -> x.put(0, -1, 1), PLACE),
        new Told("put(1, 0, 1)", x -> x.put(1, 0, 1), PLACE),
        new Told("put(2, 0, 1)", x -> x.put(2, 0, 1), NOTHING),
        new Told("copy(3, 0, 0, 0, 3)", x -> x.copy(3, 0, 0, 0, 3), PLACE),
        new Told("copy(3, 1, 0, 1, 2)", x -> x.copy(3, 1, 0, 1, 2), PLACE),
        new Told("copy(0, 0, 3, 2, 2)", x -> x.copy(0, 0, 3, 2, 2), PLACE),
        new Told("copy(0, 0, 3, BIG, 2)", x -> x.copy(0, 0, 3, BIG, 2), PLACE),
        new Told("copy(0, 0, 3, 0, BIG)", x -> x.copy(0, 0, 3, 0, BIG), PLACE),
        new Told("copy(0, 0, 3, 0, -1)", x -> x.copy(0, 0, 3, 0, -1), PLACE),
        new Told("copy(0, 0, 2, 0, 1)", x -> x.copy(0, 0, 2, 0, 1), NOTHING));
  }

  private static List<Told> refusedByFull() {
    return List.of(
        new Told("body(7)", x -> x.body(7), NONE),
        new Told("flip(32)", x -> x.flip(32), NONE),
        new Told("cone(7)", x -> x.cone(7), STATE),
        new Told("keep()", FaceFlips::keep, FULL),
        new Told("take(4)", x -> x.take(4), NONE),
        new Told("chain(2, 1, -1)", x -> x.chain(2, 1, -1), STATE),
        new Told("feed(97)", x -> x.feed(97), FULL),
        new Told("feed(128)", x -> x.feed(128), BAD),
        new Told("put(0, 40, 1)", x -> x.put(0, 40, 1), PLACE),
        new Told("copy(0, 0, 1, 0, 41)", x -> x.copy(0, 0, 1, 0, 41), PLACE),
        new Told("copy(0, 1, 1, 0, 40)", x -> x.copy(0, 1, 1, 0, 40), PLACE),
        new Told("copy(0, 0, 1, 1, 40)", x -> x.copy(0, 0, 1, 1, 40), PLACE),
        new Told("flipOf(32, 0)", x -> x.flipOf(32, 0), NONE),
        new Told("apart(16, 0)", x -> x.apart(16, 0), NONE),
        new Told("paper(79)", x -> x.paper(79), NONE),
        new Told("undo()", FaceFlips::undo, STATE));
  }

  private static void asked() {
    edge("answers", "; what is asked changes nothing but THE PAPER.");
    for (Maker maker : List.<Maker>of(FaceFlips::new, FaceFlipsAnswerEdges::some, FaceFlipsAnswerEdges::full)) {
      FaceFlips x = maker.made();
      ask(x);
      due("all behind what is asked", all(x), all(maker.made()));
    }
    FaceFlips x = some();
    FaceFlips y = some();
    due("spell()", x.spell(), y.spell());
    due("all behind spell(), the paper being the same", all(x), all(y));
    x = made(3, 1);
    x.spell();
    x.make(2);
    ask(x);
    due("THE PAPER behind what is asked", paperOf(x), "012");
    due("count(2) behind what is asked", x.count(2), 2);
  }

  /** Each call that asks, with all that it can be asked. */
  private static void ask(FaceFlips x) {
    for (int n = 0; n < 8; n++) x.heap(n);
    for (int n = 0; n < 4; n++) {
      x.faces(n + 1);
      x.face(1, n);
      x.shelled(n);
      x.plan(n, n % 3);
      x.kept(0, n);
      x.chain(n, 1, -1);
      x.chain(n, 2, n);
      x.alike(0, n);
      x.common(n, 1);
      x.judge(n);
      x.get(n, 0);
      x.flips(n);
      x.count(n);
      x.walk(20 - n, n, n % 3);
    }
    for (int n = 0; n < 2; n++) {
      x.bodyOf(n);
      x.wall(n);
      x.apart(0, n);
      x.flipOf(n, n);
      x.fewer(n);
      x.paper(n);
      int a = x.flipOf(n, 0);
      x.number(a);
      x.other(a);
    }
  }
}
