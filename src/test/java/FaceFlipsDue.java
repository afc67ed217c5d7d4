import java.util.Arrays;
import java.util.LinkedHashMap;
import java.util.Map;
import java.util.regex.Matcher;
import java.util.regex.Pattern;

/** What the tests of boundaries share: answers held against those due, and the words of the document they test. */
class FaceFlipsDue {
  static final int NONE = -1, BAD = -2, STATE = -3, FULL = -4, NOT = -5, NOTHING = -11, PLACE = -13, SIZE = -14;
  static final int BIG = Integer.MAX_VALUE, LOW = Integer.MIN_VALUE;
  static int wrong = 0;
  static int all = 0;
  static int edges = 0;
  private static String now = "";
  private static int heldAtEdge = 1;
  private static final Map<String, String> SECTIONS = new LinkedHashMap<>();
  private static final Map<String, boolean[]> TOLD = new LinkedHashMap<>();

  FaceFlipsDue() {
  }

  // ---- the document

  /** Cuts the document into what its tests go by: its opening, the three terms, the rows behind them, each promise. */
  static void load(String document) {
    String text = document.replace("```text", " ").replace("```", " ").replaceAll("\\s+", " ");
    cut(text, "what", "## What it is ", "An object is used for");
    cut(text, "use", "An object is used for", "## The public face");
    cut(text, "1", "==== 1 ", "==== 2 ");
    cut(text, "2", "==== 2 ", "==== 3 ");
    cut(text, "3", "==== 3 ", "Answers: ");
    cut(text, "answers", "Answers: ", "In doubt: ");
    cut(text, "doubt", "In doubt: ", "The constants: ");
    cut(text, "constants", "The constants: ", "## Promise 1:");
    Matcher promise = Pattern.compile("## Promise (\\d+): .*?`.*?`: (.*?) (?=## )").matcher(text);
    while (promise.find()) section("promise " + promise.group(1), promise.group(2));
    if (SECTIONS.size() != 8 + 39) fault("the document has " + SECTIONS.size() + " sections");
  }

  private static void cut(String text, String name, String from, String to) {
    int at = text.indexOf(from);
    int end = text.indexOf(to, at);
    String lead = from.endsWith(" ") ? from : "";
    if (at < 0 || end < 0) fault("no section " + name);
    else section(name, text.substring(at + lead.length(), end).trim());
  }

  private static void section(String name, String text) {
    SECTIONS.put(name, text);
    TOLD.put(name, new boolean[text.length()]);
  }

  /** From here on the answers are due by these words of a section. */
  static void edge(String section, String words) {
    ended();
    now = section + ": " + words;
    edges++;
    String text = SECTIONS.getOrDefault(section, "");
    int at = text.indexOf(words);
    if (at < 0) {
      fault("the document has no such words");
      return;
    }
    Arrays.fill(TOLD.get(section), at, at + words.length(), true);
  }

  static void ended() {
    if (heldAtEdge == 0) fault("no answer is held against these words");
    heldAtEdge = 0;
  }

  /** Words of the document that no test goes by are a fault. */
  static void covered() {
    for (Map.Entry<String, String> s : SECTIONS.entrySet()) {
      boolean[] told = TOLD.get(s.getKey());
      StringBuilder left = new StringBuilder();
      for (int i = 0; i < told.length; i++) if (!told[i]) left.append(s.getValue().charAt(i));
      now = s.getKey();
      if (!left.toString().replaceAll("[ .,:;]", "").isEmpty()) fault("words without a test: " + left);
    }
  }

  private static void fault(String what) {
    wrong++;
    System.out.println(now + ": " + what);
  }

  // ---- answers

  static void due(String call, long got, long want) {
    all++;
    heldAtEdge++;
    if (got != want) fault(call + " answered " + got + ", due is " + want);
  }

  static void due(String what, String got, String want) {
    all++;
    heldAtEdge++;
    if (!got.equals(want)) fault(what + " is '" + got + "', due is '" + want + "'");
  }

  static void has(String what, FaceFlips x, int... sets) {
    due(what + ": count(0)", x.count(0), sets.length);
    for (int i = 0; i < sets.length; i++) due(what + ": bodyOf(" + i + ")", x.bodyOf(i), sets[i]);
    due(what + ": bodyOf(" + sets.length + ")", x.bodyOf(sets.length), NOT);
  }

  // ---- heaps and what is told

  static FaceFlips of(int k, int... sets) {
    FaceFlips x = new FaceFlips();
    x.bodies(k);
    for (int s : sets) x.body(s);
    return x;
  }

  static FaceFlips made(int k, int kind) {
    FaceFlips x = of(k);
    x.make(kind);
    return x;
  }

  /** All sets of k points are bodies. */
  static FaceFlips full(int k) {
    FaceFlips x = of(k);
    for (int s = 0; s < 256; s++) if (Integer.bitCount(s) == k) x.body(s);
    return x;
  }

  /** All sets of four points whose numbers are even together: each triangle lies in just one, no flip there is. */
  static FaceFlips spread() {
    FaceFlips x = of(4);
    for (int s = 0; s < 256; s++) {
      int together = 0;
      for (int p = 0; p < 8; p++) if ((s >> p & 1) == 1) together ^= p;
      if (Integer.bitCount(s) == 4 && together == 0) x.body(s);
    }
    return x;
  }

  static FaceFlips tell(FaceFlips x, int list, int... values) {
    x.list(list, values.length);
    for (int i = 0; i < values.length; i++) x.put(list, i, values[i]);
    return x;
  }

  static void feed(FaceFlips x, String text) {
    for (int i = 0; i < text.length(); i++) x.feed(text.charAt(i));
  }

  static int say(FaceFlips x, String text) {
    feed(x, text);
    return x.read();
  }

  static String paperOf(FaceFlips x) {
    StringBuilder b = new StringBuilder();
    for (int i = 0; i < x.count(4); i++) b.append((char) x.paper(i));
    return b.toString();
  }

  static String rowOf(FaceFlips x, int list) {
    StringBuilder b = new StringBuilder();
    for (int i = 0; i < 40 && x.get(list, i) != Long.MIN_VALUE; i++) b.append(x.get(list, i)).append(' ');
    return b.toString().trim();
  }
}
