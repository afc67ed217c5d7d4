/** The boundaries in the document's third term: words and their faults, what is spelled, lists, the image. */
final class FaceFlipsTextEdges extends FaceFlipsDue {
  // Eight words of 12 signs with a blank behind each: 104 signs; they are refused, eight points being no body.
  private static final String EIGHT = "body01234567 ".repeat(8);

  static void run() {
    theText();
    theWords();
    howMany();
    noLetter();
    noWord();
    noBlank();
    behindTwelve();
    done();
    readInDoubt();
    spelled();
    lists();
    judged();
    shelledInDoubt();
    theImage();
  }

  private static void says(String text, int want, int... bodies) {
    FaceFlips x = new FaceFlips();
    due("read() of '" + text + "'", say(x, text), want);
    has("'" + text + "'", x, bodies);
  }

  private static void theText() {
    edge("3", "THE TEXT (bytes, 120 at most) holds words with one blank (32) between: each a to z, as many as stand there,"
        + " then, where told, digits");
    FaceFlips x = new FaceFlips();
    for (int i = 1; i <= 120; i++) due("feed(97)", x.feed(97), i);
    due("feed(97), full", x.feed(97), FULL);
    due("count(3)", x.count(3), 120);
    due("read() of 120 letters", x.read(), -100);
    due("count(3)", x.count(3), 0);
    due("feed(98), one more", x.feed(98), 1);
    // Twelve words in 120 signs, and the last one is done.
    x = new FaceFlips();
    feed(x, EIGHT.substring(13) + "ball flip0 flip0 flip0 flip0");
    due("count(3)", x.count(3), 119);
    due("feed(48), the last there is room for", x.feed('0'), 120);
    due("feed(48), full", x.feed('0'), FULL);
    due("read()", x.read(), 5);
    // There and back and there; back by the twelfth word.
    due("heap(1)", x.heap(1), 1);
    says("ball sphere", 2, 7, 11, 13, 14);
    says("ball  sphere", -105);
    says("ball\u001fsphere", -104);
    says("ball!sphere", -104);
    says("ballsphere", -100);
    says("balls", -100);
    says("bal", -100);
  }

  private static void theWords() {
    edge("3", ": nothing, ball, sphere, row, round, cross (as make())");
    String[] kinds = {"nothing", "ball", "sphere", "row", "round", "cross"};
    for (int k = 3; k < 5; k++) {
      for (int kind = 0; kind < 6; kind++) {
        FaceFlips x = made(k, 1 + kind % 2);
        due("read() of " + kinds[kind], say(x, kinds[kind]), 1);
        sameHeap(kinds[kind], x, made(k, kind));
      }
    }
    edge("3", "; three, four (as bodies() of 3, 4)");
    says("three", 1);
    FaceFlips x = new FaceFlips();
    due("read() of four", say(x, "row four"), 2);
    due("heap(0)", x.heap(0), 4);
    due("heap(1)", x.heap(1), 0);
    due("read() of three", say(x, "row three"), 2);
    due("heap(0)", x.heap(0), 3);
    due("heap(1)", x.heap(1), 0);
    edge("3", "; flip and 1 or 2 digits (a FLIP is DONE, as flip())");
    for (int i : new int[] {0, 9, 10, 31}) {
      x = made(4, 5);
      FaceFlips y = made(4, 5);
      y.flip(i);
      due("read() of flip" + i, say(x, "flip" + i), 1);
      sameHeap("flip" + i, x, y);
    }
    x = made(4, 5);
    due("read() of flip32, there are 32", say(x, "flip32"), 0);
    due("read() of flip99", say(x, "flip99"), 0);
    due("read() of flip09", say(x, "flip09"), 1);
    FaceFlips y = made(4, 5);
    y.flip(9);
    sameHeap("flip09", x, y);
    says("ball flip", -105);
    says("ball flip000", -105);
    edge("3", "; keep; take and a digit");
    x = made(3, 1);
    due("read() of keeps", say(x, "keep sphere keep row keep cross keep"), 7);
    due("count(1)", x.count(1), 4);
    due("read() of keep, four are kept", say(x, "keep"), 0);
    due("read() of take0", say(x, "take0"), 1);
    due("heap(1)", x.heap(1), 1);
    due("read() of take3", say(x, "take3"), 1);
    due("heap(1)", x.heap(1), 8);
    due("read() of take4", say(x, "take4"), 0);
    due("read() of take9", say(x, "take9"), 0);
    due("heap(1)", x.heap(1), 8);
    says("ball take", -105);
    says("ball take00", -105);
    edge("3", "; body and 1 to 8 digits (POINTS; as body() of the set of these).");
    says("body", -100);
    says("body7", 0);
    says("body01", 0);
    says("body012", 1, 7);
    says("body765", 1, 224);
    says("body0123", 0);
    says("body01234567", 0);
    says("body012345670", -100);
    says("four body0123 body7654 body012", 3, 15, 240);
    says("body00000012", 1, 7);
    says("body012 body210", 2);
  }

  private static void sameHeap(String what, FaceFlips x, FaceFlips y) {
    due(what + ": heap(0)", x.heap(0), y.heap(0));
    due(what + ": heap(1)", x.heap(1), y.heap(1));
    for (int i = 0; i < y.heap(1); i++) due(what + ": bodyOf(" + i + ")", x.bodyOf(i), y.bodyOf(i));
  }

  private static void howMany() {
    edge("3", "1 to 12 words.");
    says("", -100);
    says("row", 1, 7, 14, 28, 56, 112, 224);
    says("row row row row row row row row row row row ball", 12, 7);
    says("row row row row row row row row row row row ball row", -148);
  }

  private static void faulty(String text, int place) {
    FaceFlips x = made(3, 2);
    x.keep();
    feed(x, text);
    due("count(3) with '" + text + "'", x.count(3), text.length());
    due("read() of '" + text + "'", x.read(), -100 - place);
    int[] counts = {4, 1, 1, 0, 0};
    for (int i = 0; i < 5; i++) due("count(" + i + ") behind '" + text + "'", x.count(i), counts[i]);
    due("heap(0) behind '" + text + "'", x.heap(0), 3);
  }

  private static void noLetter() {
    edge("3", "FAULT, the first there is: where a word must stand (at first, and behind each blank) no letter does: that"
        + " place");
    faulty("", 0);
    faulty(" ", 0);
    faulty(" ball", 0);
    faulty("0", 0);
    faulty("`all", 0);
    faulty("{all", 0);
    faulty("Ball", 0);
    faulty("\u0000", 0);
    faulty("\u007f", 0);
    faulty("ball ", 5);
    faulty("ball  ", 5);
    faulty("ball 0", 5);
    faulty("ball Ball", 5);
    faulty("ball keep  row", 10);
  }

  private static void noWord() {
    edge("3", "; a word that is none of these, or has fewer or more digits right behind it than told: where it begins");
    faulty("a", 0);
    faulty("z", 0);
    faulty("bal", 0);
    faulty("balla", 0);
    faulty("four balll", 5);
    faulty("ball0", 0);
    faulty("keep0", 0);
    faulty("three3", 0);
    faulty("four4 ", 0);
    faulty("nothing0", 0);
    faulty("flip", 0);
    faulty("flip ", 0);
    faulty("flip x", 0);
    faulty("flip012", 0);
    faulty("flip99999", 0);
    faulty("take", 0);
    faulty("take00", 0);
    faulty("body", 0);
    faulty("body012345678", 0);
    faulty("ball flip", 5);
    faulty("ball flip123 ball5", 5);
    faulty("flip0 flip00 flip000", 13);
    faulty("flip/", 0);
    faulty("flip:", 0);
  }

  private static void noBlank() {
    edge("3", "; right behind a word (and its digits) stands something other than a blank: that place");
    for (char sign : new char[] {0, 31, 33, '/', ':', '@', 'A', 'Z', '[', '`', '{', 127}) {
      faulty("ball" + sign, 4);
      faulty("keep flip0" + sign, 10);
      faulty("ball" + sign + " keep0", 4);
    }
    faulty("flip0a", 5);
    faulty("flip00z9", 6);
    faulty("take0x", 5);
    faulty("body01234567x", 12);
    faulty("ball sphere_", 11);
  }

  private static void behindTwelve() {
    edge("3", "; a blank behind the 12th word: its place.");
    String twelve = "row row row row row row row row row row row row";
    faulty(twelve + " ", 47);
    faulty(twelve + " row", 47);
    faulty(twelve + " 7", 47);
    faulty(twelve + "  ", 47);
    faulty(twelve + "!", 47);
    faulty(twelve.substring(4) + " ", 44);
    // The last places that there can be: of a blank, of a word that lacks, of one that is none, of another sign.
    faulty(EIGHT.substring(13) + "ball flip0 flip0 flip0 flip ", 114);
    faulty(EIGHT.substring(13) + "ball flip0 flip0 flip0 keep ", 118);
    faulty(EIGHT.substring(13) + "ball flip0 flip0 flip0 flip0 ", 119);
    faulty(EIGHT + "row flip0 flip0 ", 120);
    faulty(EIGHT + "nothing sphere ", 119);
    faulty(EIGHT + "nothing sphere x", 119);
    faulty(EIGHT + "nothing sphere_", 118);
    faulty(EIGHT + "nothing sphere7_", 112);
    faulty(EIGHT + "row flip0 flip0_", 119);
  }

  private static void done() {
    edge("3", "Without it they are done, one behind the other; those that would be refused aren't (nor counted; of body: if"
        + " one is no POINT).");
    says("flip0 ball flip0 flip1", 3, 13, 14, 19, 25, 26);
    says("flip0 flip0 take0 body0 body8 body018 body0189", 0);
    says("body01 body018 body019 body0128 body9", 0);
    says("body017", 1, 131);
    says("body01234567 body0123456 body6 row flip5", 1, 7, 14, 28, 56, 112, 224);
    FaceFlips x = new FaceFlips();
    due("twelve that are refused", say(x, "flip0 flip0 flip0 flip0 take0 take1 take2 take3 body0 body1 body8 body9"), 0);
    due("five keeps", say(x, "keep keep keep keep keep"), 4);
    due("count(1)", x.count(1), 4);
    due("a refused one in between", say(x, "ball keep sphere"), 2);
    due("heap(1)", x.heap(1), 4);
  }

  private static void readInDoubt() {
    edge("doubt", "read() without a FAULT leaves none that can be TAKEN BACK, whatever its words are.");
    String[] texts = {"keep", "take0", "flip99", "ball", "body012", "three", "body8", "take9"};
    for (String text : texts) {
      FaceFlips x = made(3, 1);
      x.keep();
      x.make(5);
      due("count(2)", x.count(2), 2);
      say(x, text);
      due("count(2) behind '" + text + "'", x.count(2), 0);
      due("back() behind '" + text + "'", x.back(), STATE);
    }
    FaceFlips x = made(3, 1);
    x.read();
    say(x, "ball ");
    due("count(2) behind faults", x.count(2), 1);
  }

  private static void spelled() {
    edge("3", "SPELLED: THE PAPER becomes all BODIES, the least first, each as its POINTS' digits, the least first, with a"
        + " blank between (nothing of no BODIES; it holds nothing at first).");
    FaceFlips x = new FaceFlips();
    due("count(4) at first", x.count(4), 0);
    due("paper(0) at first", x.paper(0), NONE);
    due("spell() of none", x.spell(), 0);
    due("paper(0) of none", x.paper(0), NONE);
    x.body(131);
    due("spell() of one", x.spell(), 3);
    due("THE PAPER", paperOf(x), "017");
    x.body(28);
    x.body(224);
    due("spell() of three", x.spell(), 11);
    due("THE PAPER", paperOf(x), "234 017 567");
    x.make(0);
    due("THE PAPER still", paperOf(x), "234 017 567");
    due("spell() of none again", x.spell(), 0);
    due("THE PAPER", paperOf(x), "");
    x = full(4);
    due("spell() of all", x.spell(), 349);
    due("paper(0)", x.paper(0), '0');
    due("paper(4)", x.paper(4), ' ');
    due("paper(344)", x.paper(344), ' ');
    due("paper(345)", x.paper(345), '4');
    due("paper(348)", x.paper(348), '7');
    due("paper(349)", x.paper(349), NONE);
    due("spell() of all of 3", full(3).spell(), 223);
  }

  private static void lists() {
    edge("3", "LISTS 0 .. 3 hold nothing (at first) or a row of 0 .. 40 ints: NOTHING (-11), PLACE (-13) no such place,"
        + " SIZE (-14) a size below 0.");
    FaceFlips x = new FaceFlips();
    for (int l = 0; l < 4; l++) due("put(" + l + ", 0, 1) at first", x.put(l, 0, 1), -11);
    due("list(-1, 1)", x.list(-1, 1), NONE);
    due("list(4, 1)", x.list(4, 1), NONE);
    due("list(3, 41)", x.list(3, 41), BAD);
    due("list(3, -1)", x.list(3, -1), -14);
    due("put(3, 0, 1)", x.put(3, 0, 1), -11);
    due("list(3, 40)", x.list(3, 40), 1);
    due("put(3, 39, LOW)", x.put(3, 39, LOW), 1);
    due("put(3, 40, 1)", x.put(3, 40, 1), -13);
    due("put(3, -1, 1)", x.put(3, -1, 1), -13);
    due("get(3, 39)", x.get(3, 39), LOW);
    due("list(0, 0)", x.list(0, 0), 1);
    due("put(0, 0, 1)", x.put(0, 0, 1), -13);
    due("judge(0)", x.judge(0), NOT);
    due("judge(1)", x.judge(1), -11);
    due("judge(2)", x.judge(2), -11);
    due("list(0, 1)", x.list(0, 1), 1);
    due("put(0, 0, BIG)", x.put(0, 0, BIG), 1);
    due("put(0, 1, 1)", x.put(0, 1, 1), -13);
    due("row 0", rowOf(x, 0), "" + BIG);
  }

  private static void judges(FaceFlips x, int want, int... told) {
    due("judge() of " + java.util.Arrays.toString(told), tell(x, 2, told).judge(2), want);
  }

  private static void judged() {
    edge("3", "JUDGED: a LIST tells BODIES 0, 1, .. (as sets, the least first): the first place that is otherwise (also of"
        + " more, of fewer: the first that is too much, that lacks); -5: none.");
    FaceFlips x = of(3, 28, 131, 224);
    judges(x, NOT, 28, 131, 224);
    judges(x, 0, 131, 28, 224);
    judges(x, 1, 28, 224, 131);
    judges(x, 2, 28, 131, 225);
    judges(x, 2, 28, 131, 224 + 256);
    judges(x, 0, -28, 131, 224);
    judges(x, 3, 28, 131, 224, 224);
    judges(x, 3, 28, 131, 224, 0);
    judges(x, 2, 28, 131);
    judges(x, 0);
    judges(of(3), NOT);
    judges(of(3), 0, 0);
    judges(of(3), 0, 7);
    // As many as a list can tell, one more, one fewer.
    x = full(3);
    x.list(2, 40);
    for (int i = 0; i < 40; i++) x.put(2, i, x.bodyOf(i));
    due("judge() of 40 of 56", x.judge(2), 40);
    for (int i = 55; i > 40; i--) x.body(x.bodyOf(i));
    due("judge() of 40 of 41", x.judge(2), 40);
    x.body(x.bodyOf(40));
    due("judge() of 40 of 40", x.judge(2), NOT);
    x.body(x.bodyOf(39));
    due("judge() of 40 of 39", x.judge(2), 39);
  }

  private static void shelledInDoubt() {
    edge("doubt", "shelled(): a LIST that tells fewer than all BODIES: -5, if all that it tells is so.");
    FaceFlips x = made(3, 3);
    due("shelled() by none", tell(x, 0).shelled(0), NOT);
    due("shelled() by one", tell(x, 0, 4).shelled(0), NOT);
    due("shelled() by two", tell(x, 0, 4, 3).shelled(0), NOT);
    due("shelled() by all but one", tell(x, 0, 4, 3, 2, 1, 0).shelled(0), NOT);
    due("shelled() by all", tell(x, 0, 4, 3, 2, 1, 0, 5).shelled(0), NOT);
    due("shelled() by one too many", tell(x, 0, 4, 3, 2, 1, 0, 5, 5).shelled(0), 6);
    due("shelled() by two that don't fit", tell(x, 0, 4, 2).shelled(0), 1);
    due("shelled() by none of no bodies", tell(of(3), 0).shelled(0), NOT);
    due("shelled() by one of no bodies", tell(of(3), 0, 0).shelled(0), 0);
  }

  private static void theImage() {
    edge("3", "THE IMAGE: K, THE HEAP, KEPT heaps.");
    FaceFlips x = made(4, 1);
    x.keep();
    tell(x, 0, 5, 6);
    feed(x, "row");
    x.spell();
    due("image()", x.image(), 1);
    x.bodies(3);
    x.make(5);
    for (int i = 1; i < 4; i++) x.keep();
    tell(x, 0, 7);
    x.list(1, 3);
    x.feed(32);
    x.spell();
    due("undo()", x.undo(), 1);
    due("heap(0)", x.heap(0), 4);
    has("undone", x, 15);
    due("count(1)", x.count(1), 1);
    due("kept(1, 0)", x.kept(1, 0), NONE);
    due("kept(0, 0)", x.kept(0, 0), 4);
    // Lists, the text and the paper are none of it.
    due("row 0", rowOf(x, 0), "7");
    due("row 1", rowOf(x, 1), "0 0 0");
    due("count(3)", x.count(3), 4);
    due("THE PAPER", paperOf(x), "024 124 034 134 025 125 035 135");
    // With none and with four that are kept.
    x = new FaceFlips();
    x.image();
    for (int i = 0; i < 4; i++) x.keep();
    due("keep() of a fifth", x.keep(), FULL);
    due("undo()", x.undo(), 0);
    due("count(1)", x.count(1), 0);
    x.make(2);
    for (int i = 0; i < 4; i++) due("keep()", x.keep(), i);
    due("image()", x.image(), 4);
    due("undo()", x.undo(), 4);
    due("count(1)", x.count(1), 4);
    due("kept(3, 1)", x.kept(3, 1), 4);
  }
}
