import java.io.File;
import java.io.IOException;
import java.lang.reflect.Method;
import java.lang.reflect.Modifier;
import java.net.URL;
import java.net.URLClassLoader;
import java.nio.file.Files;
import java.nio.file.Path;
import java.util.ArrayList;
import java.util.Comparator;
import java.util.HashSet;
import java.util.List;
import java.util.Set;
import java.util.TreeSet;
import java.util.regex.Matcher;
import java.util.regex.Pattern;
import java.util.stream.Collectors;
import java.util.stream.Stream;

/** README.md: what its examples answer, that it names every call and test there is, and the command it names. */
public final class ReadmeTest {
  private static final Pattern JAVA_BLOCK = Pattern.compile("(?ms)^```java\n(.*?)^```$");
  /** A call and, behind it, what it answers: a number or a constant's name. */
  private static final Pattern EXAMPLE = Pattern.compile("\\s*(x\\.\\w+\\(.*\\));\\s*// (-?[0-9]+|[A-Z]+)\\b.*");
  private static final Pattern CALL_IN_TABLE = Pattern.compile("`(\\w+)\\(([^)`]*)\\)`");
  private static final Pattern TEST_NAME = Pattern.compile("`(\\w+Test)`");
  private static final Pattern COMMAND = Pattern.compile("(?m)^## How to run the tests\n\n {4}(\\S+)\n");
  private static final int MOST_CALLS = 512;

  public static void main(String[] args) throws Exception {
    String readme = Files.readString(Path.of("README.md"));
    examples(readme);
    calls(section(readme, "### All calls"));
    constants(section(readme, "### What a call answers that can't do it"));
    tests(section(readme, "## How to run the tests"));
    command(readme);
    Check.end();
  }

  private static String section(String readme, String heading) {
    int from = readme.indexOf("\n" + heading + "\n");
    Check.due("README has " + heading, from >= 0 ? 1 : 0, 1);
    if (from < 0) return "";
    int till = readme.indexOf("\n#", from + heading.length());
    return readme.substring(from, till < 0 ? readme.length() : till);
  }

  /** All java blocks, as one body: each call with an answer behind it leaves its answer and the one that is told. */
  private static void examples(String readme) throws Exception {
    StringBuilder body = new StringBuilder();
    Set<String> shown = new HashSet<>();
    Matcher block = JAVA_BLOCK.matcher(readme);
    while (block.find()) {
      for (String line : block.group(1).split("\n")) {
        Matcher example = EXAMPLE.matcher(line);
        boolean told = example.matches();
        Check.due("README tells the answer of: " + line, told == line.strip().startsWith("x.") ? 1 : 0, 1);
        if (told) shown.add(line.strip());
        body.append(told ? noting(line, example.group(1), example.group(2)) : line).append('\n');
      }
    }
    List<?> notes = run(body.toString());
    Set<Object> came = new HashSet<>();
    for (int i = 0; i + 2 < notes.size(); i += 3) {
      came.add(notes.get(i));
      Check.due("README: " + notes.get(i), (Long) notes.get(i + 1), (Long) notes.get(i + 2));
    }
    Check.due("every example of README is come to", came.equals(shown) && !shown.isEmpty() ? 1 : 0, 1);
    Check.due("README's object is called at most 512 times", Math.max(MOST_CALLS, notes.size() / 3), MOST_CALLS);
  }

  private static String noting(String line, String call, String answer) {
    String due = Character.isLetter(answer.charAt(0)) ? "LeastAsked." + answer : answer;
    String told = line.strip().replace("\\", "\\\\").replace("\"", "\\\"");
    return "notes.add(\"" + told + "\"); notes.add((long) " + call + "); notes.add((long) " + due + ");";
  }

  private static List<?> run(String body) throws Exception {
    Path made = Files.createTempDirectory("readme");
    try {
      Path source = made.resolve("ReadmeUse.java");
      Files.writeString(source, "import java.util.*;\npublic final class ReadmeUse {\npublic static List<Object> run() {\n"
          + "List<Object> notes = new ArrayList<>();\n" + body + "return notes;\n}\n}\n");
      int exit = new ProcessBuilder("javac", "--release", "17", "-cp", System.getProperty("java.class.path"),
          "-d", made.toString(), source.toString()).inheritIO().start().waitFor();
      Check.due("README's examples compile", exit, 0);
      if (exit != 0) return new ArrayList<>();
      try (URLClassLoader loader = new URLClassLoader(new URL[] {made.toUri().toURL()})) {
        return (List<?>) loader.loadClass("ReadmeUse").getMethod("run").invoke(null);
      }
    } finally {
      remove(made);
    }
  }

  private static void remove(Path made) throws IOException {
    try (Stream<Path> parts = Files.walk(made)) {
      parts.sorted(Comparator.reverseOrder()).map(Path::toFile).forEach(File::delete);
    }
  }

  private static void calls(String table) {
    Set<String> named = new TreeSet<>();
    Matcher call = CALL_IN_TABLE.matcher(table);
    while (call.find()) {
      int numbers = call.group(2).isEmpty() ? 0 : call.group(2).split(",").length;
      named.add(call.group(1) + numbers);
    }
    Set<String> there = new TreeSet<>();
    for (Method m : LeastAsked.class.getDeclaredMethods()) {
      if (Modifier.isPublic(m.getModifiers())) there.add(m.getName() + m.getParameterCount());
    }
    same("calls", named, there);
  }

  private static void constants(String table) {
    Check.due("README names UNKNOWN", table.contains("`UNKNOWN` " + LeastAsked.UNKNOWN + " ") ? 1 : 0, 1);
    Check.due("README names OUTSIDE", table.contains("`OUTSIDE` " + LeastAsked.OUTSIDE + " ") ? 1 : 0, 1);
    Check.due("README names STATE", table.contains("`STATE` " + LeastAsked.STATE + " ") ? 1 : 0, 1);
    Check.due("README names FULL", table.contains("`FULL` " + LeastAsked.FULL + " ") ? 1 : 0, 1);
    Check.due("README names NONE", table.contains("`NONE` " + LeastAsked.NONE + " ") ? 1 : 0, 1);
    Check.due("README names LOST", table.contains("`LOST`, the least long ") ? 1 : 0, 1);
  }

  private static void tests(String table) throws IOException {
    Set<String> named = new TreeSet<>();
    Matcher test = TEST_NAME.matcher(table);
    while (test.find()) named.add(test.group(1));
    try (Stream<Path> files = Files.list(Path.of("src/test/java"))) {
      same("tests", named, files.map(f -> f.getFileName().toString()).filter(f -> f.endsWith("Test.java"))
          .map(f -> f.substring(0, f.length() - ".java".length())).collect(Collectors.toCollection(TreeSet::new)));
    }
  }

  private static void command(String readme) {
    Matcher named = COMMAND.matcher(readme);
    boolean found = named.find();
    Check.due("README names one command for the tests", found ? 1 : 0, 1);
    Check.due("it can be run", found && Files.isExecutable(Path.of(named.group(1))) ? 1 : 0, 1);
    Check.due("it is what CI runs", found && named.group(1).equals(".ci/run") ? 1 : 0, 1);
  }

  private static void same(String what, Set<String> named, Set<String> there) {
    for (String name : named) Check.due("README names of " + what + " one that is there: " + name, there.contains(name) ? 1 : 0, 1);
    for (String name : there) Check.due("of " + what + " README names " + name, named.contains(name) ? 1 : 0, 1);
  }
}
