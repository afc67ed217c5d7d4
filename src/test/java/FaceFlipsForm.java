import java.io.DataInputStream;
import java.lang.management.ManagementFactory;
import java.lang.reflect.Constructor;
import java.lang.reflect.Field;
import java.lang.reflect.Method;
import java.lang.reflect.Modifier;
import java.nio.file.Files;
import java.nio.file.Path;
import java.util.ArrayList;
import java.util.HashSet;
import java.util.List;
import java.util.Set;
import java.util.TreeSet;
import java.util.regex.Matcher;
import java.util.regex.Pattern;

/** What LANGUAGE.md asks of the program, as far as a test can see it. Arguments: the source, the document. */
public final class FaceFlipsForm {
  private static int wrong = 0;

  private static void right(String what, boolean holds) {
    if (!holds) {
      wrong++;
      System.out.println("form: " + what);
    }
  }

  public static void main(String[] args) throws Exception {
    String source = Files.readString(Path.of(args[0]));
    String document = Files.readString(Path.of(args[1]));
    face(document);
    lines(source, document);
    classes();
    words(source);
    lengths(source);
    calledOutside();
    room();
    System.out.println(wrong == 0 ? "the form is as due" : wrong + " faults of form");
    if (wrong != 0) System.exit(1);
  }

  /** Rule 1: the face is the document's, and there is no more of it. */
  private static void face(String document) {
    Matcher block = Pattern.compile("```java\n(.*?)```", Pattern.DOTALL).matcher(document);
    right("the document has a code block", block.find());
    Set<String> due = new TreeSet<>();
    Matcher method = Pattern.compile("public (int|long) (\\w+)\\(([^)]*)\\);").matcher(block.group(1));
    while (method.find()) {
      int many = method.group(3).isEmpty() ? 0 : method.group(3).split(",").length;
      due.add(method.group(1) + " " + method.group(2) + " " + many);
    }
    Set<String> found = new TreeSet<>();
    for (Method m : FaceFlips.class.getDeclaredMethods()) {
      if (Modifier.isPrivate(m.getModifiers())) continue;
      right(m + " is public and not static", m.getModifiers() == Modifier.PUBLIC);
      for (Class<?> p : m.getParameterTypes()) right(m + " takes ints", p == int.class);
      found.add(m.getReturnType() + " " + m.getName() + " " + m.getParameterCount());
    }
    right("methods are " + found + ", due are " + due, found.equals(due));
    Set<String> constants = new TreeSet<>();
    for (Field f : FaceFlips.class.getDeclaredFields()) {
      if (!Modifier.isPrivate(f.getModifiers())) constants.add(f.getType() + " " + f.getName());
    }
    right("constants are " + constants,
        constants.equals(Set.of("int NONE", "int BAD", "int STATE", "int FULL", "int NOT", "long NO")));
    Constructor<?>[] made = FaceFlips.class.getDeclaredConstructors();
    right("one public constructor", made.length == 1 && made[0].getParameterCount() == 0
        && Modifier.isPublic(made[0].getModifiers()));
    int modifiers = FaceFlips.class.getModifiers();
    right("public and final", Modifier.isPublic(modifiers) && Modifier.isFinal(modifiers));
  }

  /** Each line of the document's face stands in the program, with its names of arguments and values of constants. */
  private static void lines(String source, String document) {
    Matcher line = Pattern.compile("\n    (public static final .*;|public .*(?=\\);))").matcher(document);
    int many = 0;
    while (line.find()) {
      String due = line.group(1).endsWith(";") ? line.group(1) : line.group(1) + ") {";
      many += source.contains("\n    " + due) ? 1 : 0;
      right("no line " + due, source.contains("\n    " + due));
    }
    right("the document's face has " + many + " lines", many == 2 + 1 + 38);
  }

  /** Rules 1, 5, 11: names of methods, static fields, how many classes and fields. */
  private static void classes() {
    Set<String> face = new HashSet<>();
    for (Method m : FaceFlips.class.getMethods()) {
      if (m.getDeclaringClass() == FaceFlips.class) face.add(m.getName());
    }
    List<Class<?>> all = new ArrayList<>(List.of(FaceFlips.class));
    for (Class<?> c : FaceFlips.class.getDeclaredClasses()) {
      right(c + " is static", Modifier.isStatic(c.getModifiers()));
      right(c + " is private", Modifier.isPrivate(c.getModifiers()));
      right(c + " has no classes", c.getDeclaredClasses().length == 0);
      all.add(c);
    }
    right("at most 12 classes", all.size() <= 12);
    for (Class<?> c : all) {
      int fields = 0;
      for (Field f : c.getDeclaredFields()) {
        if (!Modifier.isStatic(f.getModifiers())) fields++;
        else right(f + " is final", Modifier.isFinal(f.getModifiers()));
      }
      right(c + " has at most 20 fields", fields <= 20);
      for (Method m : c.getDeclaredMethods()) {
        right(m + " takes at most seven", m.getParameterCount() <= 7);
        right(m + " bears a name of the face", c == FaceFlips.class && !Modifier.isPrivate(m.getModifiers())
            || !face.contains(m.getName()));
        right(m + " is none of every object's", !Set.of("equals", "hashCode", "toString", "finalize").contains(m.getName()));
      }
    }
  }

  /** Rules 3 to 6, 13: words that must not stand in the program. */
  private static void words(String source) {
    for (int i = 0; i < source.length(); i++) right("sign " + (int) source.charAt(i), source.charAt(i) < 127);
    String code = source.replaceAll("(?s)/\\*.*?\\*/", " ").replaceAll("//[^\n]*", " ").replaceAll("\"[^\"\n]*\"", "\"\"");
    String[] none = {"package", "import", "throw", "throws", "try", "catch", "finally", "synchronized", "assert", "native",
        "volatile", "transient", "strictfp", "var", "yield", "Object", "Exception", "Error", "Thread", "Random", "float",
        "double", "while", "equals", "hashCode", "toString", "getClass", "protected"};
    for (String word : none) right("the word " + word, !Pattern.compile("\\b" + word + "\\b").matcher(code).find());
    right("a lambda", !code.contains("->"));
    right("a method reference", !code.contains("::"));
    right("an annotation", !code.contains("@"));
    Matcher library = Pattern.compile("\\b(System|Math|Integer|Long|Arrays|String|List)\\.(\\w+)").matcher(code);
    Set<String> known = Set.of("System.arraycopy", "Math.min", "Math.max", "Integer.bitCount", "Long.MIN_VALUE");
    while (library.find()) right("the library's " + library.group(), known.contains(library.group()));
  }

  /** Rule 11: methods of some sixty lines at most. */
  private static void lengths(String source) {
    String[] lines = source.split("\n");
    for (int i = 0; i < lines.length; i++) {
      Matcher m = Pattern.compile("( {4}| {8})(?! )(?!return|if|for|switch)[^=;]*\\(.*\\{").matcher(lines[i]);
      if (!m.matches()) continue;
      int end = i;
      while (!lines[end].equals(m.group(1) + "}")) end++;
      right(lines[i].trim() + " has " + (end - i + 1) + " lines", end - i < 60);
      right("a line of over 120 signs: " + lines[i], lines[i].length() <= 120);
    }
  }

  /** Rules 3, 4, 10: what the compiled classes name beside their own. */
  private static void calledOutside() throws Exception {
    Set<String> known = Set.of("java/lang/Object.<init>", "java/lang/System.arraycopy", "java/lang/Math.min",
        "java/lang/Integer.bitCount", "java/lang/String.length", "java/lang/String.charAt");
    List<Class<?>> all = new ArrayList<>(List.of(FaceFlips.class.getDeclaredClasses()));
    all.add(FaceFlips.class);
    for (Class<?> c : all) {
      try (DataInputStream in = new DataInputStream(FaceFlips.class.getResourceAsStream(c.getName() + ".class"))) {
        for (String name : named(in)) right(c + " names " + name, name.startsWith("FaceFlips") || known.contains(name));
      }
    }
  }

  /** The methods and fields in a class's table of names, each with its class; "a dynamic call", where there is one. */
  private static List<String> named(DataInputStream in) throws Exception {
    in.readInt();
    in.readInt();
    int many = in.readUnsignedShort();
    Object[] entries = new Object[many];
    for (int i = 1; i < many; i++) {
      int tag = in.readUnsignedByte();
      switch (tag) {
        case 1 -> entries[i] = in.readUTF();
        case 7, 8, 16, 19, 20 -> entries[i] = new int[] {tag, in.readUnsignedShort()};
        case 9, 10, 11, 12, 17, 18 -> entries[i] = new int[] {tag, in.readUnsignedShort(), in.readUnsignedShort()};
        case 15 -> entries[i] = new int[] {tag, in.readUnsignedByte(), in.readUnsignedShort()};
        case 3, 4 -> in.readInt();
        case 5, 6 -> {
          in.readLong();
          i++;
        }
        default -> throw new IllegalStateException("tag " + tag);
      }
    }
    List<String> names = new ArrayList<>();
    for (Object o : entries) {
      if (!(o instanceof int[] e)) continue;
      if (e[0] >= 15 && e[0] <= 18) names.add("a dynamic call");
      if (e[0] < 9 || e[0] > 11) continue;
      int[] owner = (int[]) entries[e[1]];
      int[] name = (int[]) entries[e[2]];
      names.add(entries[owner[1]] + "." + entries[name[1]]);
    }
    return names;
  }

  /** The room: calls make no objects; an object's own are few. */
  private static void room() {
    com.sun.management.ThreadMXBean bean = (com.sun.management.ThreadMXBean) ManagementFactory.getThreadMXBean();
    long self = Thread.currentThread().getId();
    long warm = 0;
    for (int i = 0; i < 3; i++) warm += calls(new FaceFlips());
    FaceFlips x = new FaceFlips();
    bean.getThreadAllocatedBytes(self);
    long before = bean.getThreadAllocatedBytes(self);
    warm += calls(x);
    long behind = bean.getThreadAllocatedBytes(self);
    FaceFlips y = new FaceFlips();
    long made = bean.getThreadAllocatedBytes(self);
    right("calls took " + (behind - before) + " bytes of room", behind - before < 2000);
    right("an object takes " + (made - behind) + " bytes of room", made - behind < 60000);
    right("answers", warm != 0 && y.heap(0) == 3);
  }

  private static long calls(FaceFlips x) {
    long sum = 0;
    for (int k = 3; k < 5; k++) {
      sum += x.bodies(k) + x.make(5) + x.keep() + x.flip(3) + x.flip(5) + x.keep() + x.body(k == 3 ? 7 : 15) + x.back();
      for (int i = -1; i < 9; i++) {
        sum += x.heap(i) + x.faces(i) + x.face(3, i) + x.wall(i) + x.apart(0, i) + x.flips(i) + x.flipOf(i, 0) + x.number(i)
            + x.other(i) + x.fewer(i) + x.walk(20, i, 0) + x.bodyOf(i) + x.count(i) + x.kept(0, i) + x.cone(i);
      }
      sum += x.list(0, 5) + x.list(1, 40) + x.put(0, 2, 3) + x.get(0, 2) + x.copy(0, 0, 1, 3, 4) + x.judge(0) + x.plan(0, 1);
      sum += x.shelled(1) + x.chain(0, 1, -1) + x.chain(1, 2, 0) + x.alike(0, 1) + x.common(0, 1) + x.image() + x.spell();
      String text = "four cross flip0 take0 keep body0123 three row";
      for (int i = 0; i < text.length(); i++) sum += x.feed(text.charAt(i));
      sum += x.read() + x.paper(2) + x.undo() + x.take(0);
    }
    return sum;
  }
}
