import java.lang.reflect.InvocationTargetException;
import java.lang.reflect.Method;
import java.util.ArrayList;
import java.util.Comparator;
import java.util.List;
import java.util.Map;
import java.util.Random;
import java.util.Set;

/** Any arguments in any state: no call throws, each answers what its promise names, and the same calls the same. */
public final class FaceFlipsWild {
  private static final int NONE = -1, BAD = -2, STATE = -3, FULL = -4, NOT = -5, NOTHING = -11, PLACE = -13, SIZE = -14;
  private static final int[] WILD = {Integer.MIN_VALUE, Integer.MIN_VALUE + 7, -65536, -257, -256, -8, -2, -1, 0, 8, 9, 15, 16,
      20, 21, 31, 39, 40, 41, 55, 56, 69, 70, 119, 120, 127, 128, 224, 240, 255, 256, 257, 263, 349, 65536,
      Integer.MAX_VALUE - 39, Integer.MAX_VALUE};
  private static final Map<String, Set<Integer>> REFUSALS = Map.ofEntries(
      Map.entry("bodies", Set.of(BAD)), Map.entry("make", Set.of(NONE)), Map.entry("body", Set.of(NONE)),
      Map.entry("bodyOf", Set.of(NONE, NOT)), Map.entry("heap", Set.of(NONE)), Map.entry("faces", Set.of(BAD)),
      Map.entry("face", Set.of(NONE)), Map.entry("wall", Set.of(NONE, NOT)), Map.entry("apart", Set.of(NONE, NOT)),
      Map.entry("shelled", Set.of(NONE, NOTHING, NOT)), Map.entry("flips", Set.of(BAD)), Map.entry("flipOf", Set.of(NONE)),
      Map.entry("number", Set.of(NONE, NOT)), Map.entry("flip", Set.of(NONE)), Map.entry("other", Set.of(NONE, NOT)),
      Map.entry("plan", Set.of(NONE, NOTHING)), Map.entry("cone", Set.of(NONE, STATE)), Map.entry("back", Set.of(STATE)),
      Map.entry("keep", Set.of(FULL)), Map.entry("take", Set.of(NONE)), Map.entry("kept", Set.of(NONE)),
      Map.entry("chain", Set.of(NONE, BAD, STATE, NOT)), Map.entry("alike", Set.of(NONE)), Map.entry("common", Set.of(NONE)),
      Map.entry("fewer", Set.of(NONE)), Map.entry("walk", Set.of(BAD, NONE)), Map.entry("feed", Set.of(BAD, FULL)),
      Map.entry("read", Set.of()), Map.entry("spell", Set.of()), Map.entry("paper", Set.of(NONE)),
      Map.entry("judge", Set.of(NONE, NOTHING, NOT)), Map.entry("list", Set.of(NONE, BAD, SIZE)),
      Map.entry("put", Set.of(NONE, NOTHING, PLACE)), Map.entry("get", Set.of()), Map.entry("copy", Set.of(NONE, NOTHING, PLACE)),
      Map.entry("image", Set.of()), Map.entry("undo", Set.of(STATE)), Map.entry("count", Set.of(BAD)));

  private static int wrong = 0;
  private static long all = 0;

  private FaceFlipsWild() {
  }

  public static void main(String[] args) throws Exception {
    List<Method> calls = new ArrayList<>();
    for (Method m : FaceFlips.class.getDeclaredMethods()) if (REFUSALS.containsKey(m.getName())) calls.add(m);
    calls.sort(Comparator.comparing(Method::getName));
    if (calls.size() != 38) fault("there are " + calls.size() + " methods");
    for (int seed = 1; seed <= 1500 && wrong < 20; seed++) run(calls, new Random(seed));
    System.out.println(all + " wild calls, " + (wrong == 0 ? "all answered as may be" : wrong + " faults"));
    if (wrong != 0) System.exit(1);
  }

  private static void fault(String what) {
    wrong++;
    System.out.println(what);
  }

  private static void run(List<Method> calls, Random r) throws Exception {
    FaceFlips x = new FaceFlips();
    FaceFlips twin = new FaceFlips();
    for (int n = 0; n < 512 && wrong < 20; n++) {
      Method m = calls.get(r.nextInt(calls.size()));
      Object[] with = new Object[m.getParameterCount()];
      for (int i = 0; i < with.length; i++) with[i] = argument(r);
      String call = m.getName() + java.util.Arrays.toString(with);
      try {
        long got = ((Number) m.invoke(x, with)).longValue();
        if (!mayBe(m.getName(), got)) fault(call + " answered " + got);
        if (got != ((Number) m.invoke(twin, with)).longValue()) fault(call + " answered otherwise the second time");
        all++;
      } catch (InvocationTargetException e) {
        fault(call + " threw " + e.getCause());
      }
    }
  }

  private static int argument(Random r) {
    int t = r.nextInt(12);
    if (t == 0) return r.nextInt();
    if (t < 3) return WILD[r.nextInt(WILD.length)];
    // Sets of three or four points, and small numbers.
    if (t == 3) return (1 << 3 + r.nextInt(2)) - 1 << r.nextInt(5);
    return r.nextInt(t < 8 ? 4 : 9);
  }

  private static boolean mayBe(String name, long answer) {
    if (name.equals("get")) return answer == Long.MIN_VALUE || answer == (int) answer;
    if (name.equals("read") && answer < 0) return answer <= -100 && answer >= -220;
    if (answer < 0) return REFUSALS.get(name).contains((int) answer);
    return answer <= 349;
  }
}
