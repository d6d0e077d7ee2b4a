import java.lang.reflect.Constructor;
import java.lang.reflect.Field;
import java.lang.reflect.Method;
import java.lang.reflect.Modifier;
import java.nio.file.Files;
import java.nio.file.Path;
import java.util.Arrays;
import java.util.HashSet;
import java.util.Set;
import java.util.regex.Pattern;
import java.util.stream.Collectors;

/** The public face of the document, and such rules of LANGUAGE.md as can be seen from outside or by a word. */
public final class FaceTest {
  private static final String[] METHODS = {
    "int province(int,int,int,int)", "int ofPerson(int,int)", "int worth(int)", "int weigh(int,int)",
    "int teach(int,int)", "int sharpen(int,int)", "int brings(int,int)", "int question(int)", "int feint(int)",
    "int year(int,int,int,int,int)", "int register(int)", "int turn(int)", "int steer(int)", "int even()",
    "int plan(int,int,int,int,int)", "int best(int)", "int reading(int,int,int)", "int back(int)",
    "int knowings(int)", "int wits(int)", "int kinds(int)", "int worths(int)", "long odds(int,int,int)",
    "int sheet(int,int,int)", "int lose(int)", "int put(int,int,int)", "long cell(int,int,int)",
    "int copy(int,int,int,int,int)", "int tell(int)", "int greet(int)", "int as(int,int)", "int trace()",
    "int fault()", "int many(int)"};
  private static final String[] CONSTANTS = {"UNKNOWN", "OUTSIDE", "STATE", "FULL", "NONE", "LOST"};
  private static final String[] FORBIDDEN = {"throw", "throws", "try", "catch", "synchronized", "assert", "->", "::",
    "Exact", "protected", "Random", "Thread", "nanoTime", "currentTimeMillis", "instanceof Object"};

  public static void main(String[] args) throws Exception {
    Class<?> c = LeastAsked.class;
    Check.due("final and public", c.getModifiers(), Modifier.PUBLIC | Modifier.FINAL);
    constants();
    methods(c);
    fields(c);
    words(Files.readString(Path.of("src/main/java/LeastAsked.java")));
    Check.end();
  }

  private static void constants() {
    Check.due("UNKNOWN", LeastAsked.UNKNOWN, -1);
    Check.due("OUTSIDE", LeastAsked.OUTSIDE, -2);
    Check.due("STATE", LeastAsked.STATE, -3);
    Check.due("FULL", LeastAsked.FULL, -4);
    Check.due("NONE", LeastAsked.NONE, -9);
    Check.due("LOST", LeastAsked.LOST, Long.MIN_VALUE);
  }

  private static void methods(Class<?> c) {
    Set<String> due = new HashSet<>(Arrays.asList(METHODS));
    Set<String> names = due.stream().map(s -> s.substring(s.indexOf(' ') + 1, s.indexOf('('))).collect(Collectors.toSet());
    for (Method m : c.getDeclaredMethods()) {
      if (Modifier.isPrivate(m.getModifiers())) {
        Check.due("private, and the name of a public one: " + m.getName(), names.contains(m.getName()) ? 1 : 0, 0);
      } else {
        String face = m.getReturnType() + " " + m.getName()
            + Arrays.stream(m.getParameterTypes()).map(Class::getName).collect(Collectors.joining(",", "(", ")"));
        Check.due("in the face: " + face, due.remove(face) ? 1 : 0, 1);
        Check.due("public: " + face, m.getModifiers(), Modifier.PUBLIC);
      }
    }
    Check.due("missing: " + due, due.size(), 0);
    for (Constructor<?> made : c.getDeclaredConstructors()) Check.due("constructor", made.getParameterCount(), 0);
    Check.due("constructors", c.getConstructors().length, 1);
    Check.due("classes, some twelve", Math.max(12, c.getDeclaredClasses().length + 1), 12);
    for (Class<?> inside : c.getDeclaredClasses()) {
      Check.due("static: " + inside, Modifier.isStatic(inside.getModifiers()) ? 1 : 0, 1);
    }
  }

  private static void fields(Class<?> c) {
    for (Field f : c.getDeclaredFields()) {
      boolean shown = !Modifier.isPrivate(f.getModifiers());
      Check.due("shown: " + f.getName(), shown ? 1 : 0, Arrays.asList(CONSTANTS).contains(f.getName()) ? 1 : 0);
      boolean loose = Modifier.isStatic(f.getModifiers()) && !Modifier.isFinal(f.getModifiers());
      Check.due("static and not final: " + f.getName(), loose ? 1 : 0, 0);
    }
  }

  private static void words(String source) {
    String code = source.replaceAll("(?s)/\\*.*?\\*/", "").replaceAll("//[^\n]*", "");
    for (String word : FORBIDDEN) {
      String sought = Character.isLetter(word.charAt(0)) ? "\\b" + word + "\\b" : Pattern.quote(word);
      Check.due("the word " + word, Pattern.compile(sought).matcher(code).find() ? 1 : 0, 0);
    }
    for (String line : code.split("\n")) {
      if (line.startsWith("import ")) Check.due(line, line.equals("import java.util.Arrays;") ? 1 : 0, 1);
    }
  }
}
