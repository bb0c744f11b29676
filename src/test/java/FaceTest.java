import java.lang.reflect.Constructor;
import java.lang.reflect.Field;
import java.lang.reflect.Method;
import java.lang.reflect.Modifier;
import java.nio.file.Files;
import java.nio.file.Path;
import java.util.Arrays;
import java.util.Set;
import java.util.TreeSet;

/** The public face, and the rules of LANGUAGE.md that can be read off the class and its text. */
public final class FaceTest {
  private static final String[] FACE = {
    "int ship(int, int, int, int)", "int ofTank(int, int)", "int mass(int, int)", "int bound(int, int)",
    "int due(int)", "int fail(int)", "int measure(int)", "int moment(int)", "int pump(int)",
    "int plan(int)", "long plans()", "int day(int, int, int, int, int)", "int states()",
    "int worst(int)", "int reading(int)", "int back(int)", "int kinds(int)", "int masses(int)",
    "long odds(int)", "int sheet(int, int, int)", "int lose(int)", "int put(int, int, int)",
    "long cell(int, int, int)", "int copy(int, int, int, int, int)", "int tell(int)",
    "int sound(int)", "int as(int, int)", "int trace()", "int fault()", "int many(int)"};
  private static final String[] CONSTANTS = {"int UNKNOWN = -1", "int OUTSIDE = -2", "int STATE = -3",
    "int FULL = -4", "int NONE = -9", "long LOST = -9223372036854775808"};
  private static final String[] FORBIDDEN = {"throw", "try", "catch", "synchronized", "assert", "->", "::",
    "\\w*Exact", "System.out", "Random", "Thread", "import java.util.Scanner"};
  private static int wrong = 0;

  private static void say(String what) {
    wrong++;
    System.out.println(what);
  }

  public static void main(String[] args) throws Exception {
    methods();
    constants();
    classes();
    source();
    if (wrong != 0) System.exit(1);
    System.out.println("the face is as told");
  }

  private static void methods() {
    Set<String> found = new TreeSet<>();
    Set<String> names = new TreeSet<>();
    for (Method m : BallastSteps.class.getDeclaredMethods()) {
      if (Modifier.isPrivate(m.getModifiers())) continue;
      String types = Arrays.toString(m.getParameterTypes());
      found.add(m.getReturnType() + " " + m.getName() + "(" + types.substring(1, types.length() - 1) + ")");
      names.add(m.getName());
    }
    if (!found.equals(new TreeSet<>(Arrays.asList(FACE)))) say("methods: " + found);
    for (Method m : BallastSteps.class.getDeclaredMethods()) {
      if (Modifier.isPrivate(m.getModifiers()) && names.contains(m.getName())) say("private " + m);
      if (m.getParameterCount() > 7) say("too many parameters: " + m);
    }
    Constructor<?>[] made = BallastSteps.class.getDeclaredConstructors();
    if (made.length != 1 || !Modifier.isPublic(made[0].getModifiers())) say("constructors");
    if (!Modifier.isFinal(BallastSteps.class.getModifiers())) say("the class is not final");
  }

  private static void constants() throws Exception {
    Set<String> found = new TreeSet<>();
    for (Field f : BallastSteps.class.getDeclaredFields()) {
      int kind = f.getModifiers();
      if (Modifier.isStatic(kind) && !Modifier.isFinal(kind)) say("static state: " + f);
      if (Modifier.isPrivate(kind)) continue;
      if (!Modifier.isPublic(kind) || !Modifier.isStatic(kind)) say("a field in the face: " + f);
      found.add(f.getType() + " " + f.getName() + " = " + f.get(null));
    }
    if (!found.equals(new TreeSet<>(Arrays.asList(CONSTANTS)))) say("constants: " + found);
  }

  private static void classes() {
    Class<?>[] inside = BallastSteps.class.getDeclaredClasses();
    if (inside.length > 11) say("too many classes");
    for (Class<?> c : inside) {
      if (!Modifier.isStatic(c.getModifiers())) say("not static: " + c);
      if (c.getDeclaredFields().length > 20) say("too many fields: " + c);
    }
  }

  private static void source() throws Exception {
    String text = Files.readString(Path.of("src/main/java/BallastSteps.java"));
    String code = text.replaceAll("(?s)/\\*.*?\\*/", "").replaceAll("//[^\n]*", "");
    for (String word : FORBIDDEN) {
      // Signs such as -> stand by themselves, words may be part of others.
      boolean isSign = word.equals("->") || word.equals("::");
      String sign = isSign ? word : "\\b" + word + "\\b";
      if (java.util.regex.Pattern.compile(sign).matcher(code).find()) say("not in this language: " + word);
    }
    for (String line : code.split("\n")) {
      if (line.startsWith("import") && !line.equals("import java.util.Arrays;")) say(line);
    }
    for (char c : text.toCharArray()) {
      if (c > 126) say("a sign beyond 126");
    }
  }
}
