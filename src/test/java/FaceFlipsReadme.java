import java.nio.file.Files;
import java.nio.file.Path;
import java.util.ArrayList;
import java.util.List;
import java.util.Set;
import java.util.TreeSet;
import java.util.regex.Matcher;
import java.util.regex.Pattern;
import java.util.stream.Stream;

/**
 * What README.md says of the use of the class and of its tests. Arguments: the project's folder, the document, and the
 * file that README's examples are written to as a class ReadmeUse, which holds them against the answers they tell.
 */
public final class FaceFlipsReadme {
  private static final Pattern TOLD = Pattern.compile("\\s*(x\\..*);\\s*// (-?\\d+|NO): .*");
  private static int wrong = 0;

  private FaceFlipsReadme() {
  }

  public static void main(String[] args) throws Exception {
    Path project = Path.of(args[0]);
    String readme = Files.readString(project.resolve("README.md"));
    String document = Files.readString(Path.of(args[1]));
    calls(readme, document);
    numbers(readme, document);
    files(readme, project);
    Files.writeString(Path.of(args[2]), examples(readme));
    System.out.println(wrong == 0 ? "README is as due" : wrong + " faults of README");
    if (wrong != 0) System.exit(1);
  }

  private static void right(String what, boolean holds) {
    if (!holds) {
      wrong++;
      System.out.println("README: " + what);
    }
  }

  /** Each call of the document's face is told with its arguments, and no call that isn't one. */
  private static void calls(String readme, String document) {
    Set<String> due = new TreeSet<>();
    Matcher method = Pattern.compile("public (?:int|long) (\\w+\\([^)]*\\));").matcher(document);
    while (method.find()) due.add(method.group(1).replace("int ", ""));
    right("the document has " + due.size() + " calls", due.size() == 38);
    Set<String> told = new TreeSet<>();
    Matcher call = Pattern.compile("`(\\w+\\([^`]*\\))`").matcher(readme);
    while (call.find()) told.add(call.group(1));
    for (String d : due) right("does not tell " + d, told.contains(d));
    for (String t : told) right("tells " + t + ", which is none", due.contains(t) || t.equals("new FaceFlips()"));
  }

  /** Each number that stands for an answer is told, and no other number below 0 in the rows that tell them. */
  private static void numbers(String readme, String document) {
    Set<String> due = new TreeSet<>();
    Matcher constant = Pattern.compile("\\b(NONE|BAD|STATE|FULL|NOT) = (-\\d+)").matcher(document);
    while (constant.find()) due.add(constant.group(1) + "` | " + constant.group(2) + " ");
    Matcher ofLists = Pattern.compile("\\b(NOTHING|PLACE|SIZE) \\((-\\d+)\\)").matcher(document);
    while (ofLists.find()) due.add("| " + ofLists.group(2) + " |");
    due.add("`NO` | `Long.MIN_VALUE` ");
    due.add("| -100 less a place |");
    right("the document has " + due.size() + " numbers", due.size() == 10);
    for (String d : due) right("has no row with " + d, readme.contains(d));
    int rows = 0;
    for (String line : readme.split("\n")) if (line.matches("\\| .* \\| (-\\d+.*|`Long.MIN_VALUE`) \\| .*\\|")) rows++;
    right("has " + rows + " rows of numbers", rows == due.size());
  }

  /** What README names is there, and each test that is there is named. */
  private static void files(String readme, Path project) throws Exception {
    Matcher path = Pattern.compile("`((?:src|\\.\\./shared|\\.ci)/[\\w./]*)`").matcher(readme);
    List<String> named = new ArrayList<>();
    while (path.find()) named.add(path.group(1));
    right("names files", named.size() > 3);
    for (String n : named) right("names " + n + ", which isn't there", Files.exists(project.resolve(n)));
    Matcher test = Pattern.compile("`(FaceFlips\\w+)(?:\\.java)?`").matcher(readme);
    Set<String> told = new TreeSet<>();
    while (test.find()) told.add(test.group(1) + ".java");
    Set<String> there = new TreeSet<>();
    try (Stream<Path> all = Files.list(project.resolve("src/test/java"))) {
      all.forEach(p -> there.add(p.getFileName().toString()));
    }
    right("tells the tests " + told + ", there are " + there, told.equals(there));
    String run = Files.readString(project.resolve(".ci/run"));
    for (String t : there) {
      String name = t.substring("FaceFlips".length(), t.length() - ".java".length());
      right(".ci/run leaves out " + t, Pattern.compile("(FaceFlips|[ \"])" + name + "\\b").matcher(run).find());
    }
    right("tells how to run the tests", readme.contains("\n    .ci/run\n"));
    right(".ci/run can be run", Files.isExecutable(project.resolve(".ci/run")));
  }

  /** README's examples as one class: each block by itself, each call with the answer that is told behind it. */
  private static String examples(String readme) {
    StringBuilder b = new StringBuilder("public final class ReadmeUse {\n  static int wrong = 0, all = 0;\n");
    b.append("  static void due(String call, long got, long want) {\n    all++;\n    if (got != want) {\n      wrong++;\n");
    b.append("      System.out.println(call + \" answered \" + got + \", README tells \" + want);\n    }\n  }\n");
    b.append("  public static void main(String[] args) {\n");
    Matcher block = Pattern.compile("```java\n(.*?)```", Pattern.DOTALL).matcher(readme);
    int told = 0;
    while (block.find()) {
      b.append("    {\n");
      for (String line : block.group(1).split("\n")) {
        Matcher m = TOLD.matcher(line);
        if (m.matches()) {
          String want = m.group(2).equals("NO") ? "FaceFlips.NO" : m.group(2) + "L";
          b.append("due(\"").append(m.group(1).replace("\"", "'")).append("\", ").append(m.group(1)).append(", ");
          b.append(want).append(");\n");
          told++;
        } else {
          b.append(line).append('\n');
        }
      }
      b.append("    }\n");
    }
    right("has examples", told > 20);
    b.append("    System.out.println(all + \" answers of README, \" + wrong + \" wrong\");\n");
    return b.append("    if (wrong != 0) System.exit(1);\n  }\n}\n").toString();
  }
}
