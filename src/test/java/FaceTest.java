import java.lang.reflect.Array;
import java.lang.reflect.Constructor;
import java.lang.reflect.Field;
import java.lang.reflect.Method;
import java.lang.reflect.Modifier;
import java.nio.file.Files;
import java.nio.file.Path;
import java.util.Arrays;
import java.util.IdentityHashMap;
import java.util.Map;
import java.util.Set;
import java.util.TreeSet;
import java.util.regex.Matcher;
import java.util.regex.Pattern;

/** The public face, and the rules of LANGUAGE.md that can be read off the class and its text. */
public final class FaceTest {
  private static final String[] FACE = {
    "int ship(int, int, int, int)", "int ofTank(int, int)", "int mass(int, int)", "int bound(int, int)",
    "int due(int)", "int fail(int)", "int measure(int)", "int moment(int)", "int pump(int)",
    "int plan(int)", "long plans()", "int day(int, int, int, int, int)", "int states()",
    "int worst(int)", "int reading(int)", "int back(int)", "int kinds(int)", "int masses(int)",
    "long odds(int)", "int sheet(int, int, int)", "int lose(int)", "int put(int, int, int)",
    "long cell(int, int, int)", "int copy(int, int, int, int, int)", "int tell(int)",
    "int sound(int)", "int as(int, int)", "int trace()", "int fault()", "int many(int)"};
  private static final String[] CONSTANTS = {"int UNKNOWN = -1", "int OUTSIDE = -2", "int STATE = -3",
    "int FULL = -4", "int NONE = -9", "long LOST = -9223372036854775808"};
  private static final String[] FORBIDDEN = {"throw", "try", "catch", "synchronized", "assert", "->", "::",
    "\\w*Exact", "System.out", "Random", "Thread", "import java.util.Scanner"};
  private static final int LONGEST_METHOD = 60;
  private static final int MOST_FIELDS = 20;
  // A run has 600,000 objects and 7.3 million fields and elements in all: some 1,400 ships of this size.
  private static final int MOST_MADE = 40;
  private static final int MOST_KEPT = 5_000;
  private static int wrong = 0;

  private static void say(String what) {
    wrong++;
    System.out.println(what);
  }

  public static void main(String[] args) throws Exception {
    methods();
    constants();
    classes();
    source();
    room();
    if (wrong != 0) System.exit(1);
    System.out.println("the face is as told");
  }

  private static void methods() {
    Set<String> found = new TreeSet<>();
    Set<String> names = new TreeSet<>();
    for (Method m : BallastSteps.class.getDeclaredMethods()) {
      if (Modifier.isPrivate(m.getModifiers())) continue;
      String types = Arrays.toString(m.getParameterTypes());
      found.add(m.getReturnType() + " " + m.getName() + "(" + types.substring(1, types.length() - 1) + ")");
      names.add(m.getName());
    }
    if (!found.equals(new TreeSet<>(Arrays.asList(FACE)))) say("methods: " + found);
    for (Method m : BallastSteps.class.getDeclaredMethods()) {
      if (Modifier.isPrivate(m.getModifiers()) && names.contains(m.getName())) say("private " + m);
      if (m.getParameterCount() > 7) say("too many parameters: " + m);
    }
    Constructor<?>[] made = BallastSteps.class.getDeclaredConstructors();
    if (made.length != 1 || !Modifier.isPublic(made[0].getModifiers())) say("constructors");
    if (!Modifier.isFinal(BallastSteps.class.getModifiers())) say("the class is not final");
  }

  private static void constants() throws Exception {
    Set<String> found = new TreeSet<>();
    for (Field f : BallastSteps.class.getDeclaredFields()) {
      int kind = f.getModifiers();
      if (Modifier.isStatic(kind) && !Modifier.isFinal(kind)) say("static state: " + f);
      if (Modifier.isPrivate(kind)) continue;
      if (!Modifier.isPublic(kind) || !Modifier.isStatic(kind)) say("a field in the face: " + f);
      found.add(f.getType() + " " + f.getName() + " = " + f.get(null));
    }
    if (!found.equals(new TreeSet<>(Arrays.asList(CONSTANTS)))) say("constants: " + found);
  }

  private static void classes() {
    Class<?>[] inside = BallastSteps.class.getDeclaredClasses();
    if (inside.length > 11) say("too many classes");
    for (Class<?> c : inside) {
      if (!Modifier.isStatic(c.getModifiers())) say("not static: " + c);
      countFields(c);
    }
    countFields(BallastSteps.class);
  }

  private static void countFields(Class<?> c) {
    int fields = 0;
    for (Field f : c.getDeclaredFields()) {
      if (!Modifier.isStatic(f.getModifiers())) fields++;
    }
    if (fields > MOST_FIELDS) say("too many fields: " + c);
  }

  private static void source() throws Exception {
    String text = Files.readString(Path.of("src/main/java/BallastSteps.java"));
    String code = text.replaceAll("(?s)/\\*.*?\\*/", "").replaceAll("//[^\n]*", "");
    for (String word : FORBIDDEN) {
      // Signs such as -> stand by themselves, words may be part of others.
      boolean isSign = word.equals("->") || word.equals("::");
      String sign = isSign ? word : "\\b" + word + "\\b";
      if (Pattern.compile(sign).matcher(code).find()) say("not in this language: " + word);
    }
    for (String line : code.split("\n")) {
      if (line.startsWith("import") && !line.equals("import java.util.Arrays;")) say(line);
    }
    for (char c : text.toCharArray()) {
      if (c > 126) say("a sign beyond 126");
    }
    members(code);
  }

  /** Methods are short, and none but constructors makes an object: what is made, is made once. */
  private static void members(String code) {
    Pattern method = Pattern.compile("(?ms)^( +)((?:[\\w\\[\\]]+ )*)(\\w+)\\([^()]*\\) \\{\n(.*?)^\\1\\}");
    Matcher m = method.matcher(code);
    int found = 0;
    while (m.find()) {
      found++;
      String body = m.group(4);
      if (body.split("\n").length > LONGEST_METHOD) say("too long: " + m.group(3));
      boolean isConstructor = Character.isUpperCase(m.group(3).charAt(0));
      boolean makes = Pattern.compile("\\bnew\\b|\\bclone\\(|copyOf|List|String").matcher(body).find();
      if (makes && !isConstructor) say(m.group(3) + " makes an object");
    }
    if (found < FACE.length) say("methods were not found in the text");
  }

  /** All that an object keeps, ahead of any call and behind calls that use most of it. */
  private static void room() throws Exception {
    BallastSteps x = new BallastSteps();
    kept(x);
    String text = "s;P1c1o;P2c1o;P3c1o;P4c1o;P5c1o;P3c2o";
    x.sheet(0, 0, 60);
    for (int i = 0; i < text.length(); i++) x.put(0, i, text.charAt(i));
    x.ship(0, 0, 0, text.length());
    for (int r = 0; r < 8; r++) x.reading(0);
    x.plans();
    kept(x);
  }

  private static void kept(BallastSteps x) throws Exception {
    Map<Object, Integer> sizes = new IdentityHashMap<>();
    keep(x, sizes);
    int all = 0;
    for (int size : sizes.values()) all += size;
    if (sizes.size() > MOST_MADE || all > MOST_KEPT) {
      say("keeps " + sizes.size() + " objects with " + all + " fields and elements");
    }
  }

  private static void keep(Object o, Map<Object, Integer> sizes) throws Exception {
    if (o == null || sizes.containsKey(o)) return;
    if (o.getClass().isArray()) {
      sizes.put(o, Array.getLength(o));
      if (o instanceof Object[] row) {
        for (Object in : row) keep(in, sizes);
      }
      return;
    }
    sizes.put(o, o.getClass().getDeclaredFields().length);
    for (Field f : o.getClass().getDeclaredFields()) {
      if (Modifier.isStatic(f.getModifiers()) || f.getType().isPrimitive()) continue;
      f.setAccessible(true);
      keep(f.get(o), sizes);
    }
  }
}
