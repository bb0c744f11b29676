import java.io.IOException;
import java.lang.reflect.Method;
import java.lang.reflect.Modifier;
import java.net.URL;
import java.net.URLClassLoader;
import java.nio.file.DirectoryStream;
import java.nio.file.Files;
import java.nio.file.Path;
import java.util.ArrayList;
import java.util.Comparator;
import java.util.List;
import java.util.regex.Matcher;
import java.util.regex.Pattern;
import java.util.stream.Stream;
import javax.tools.JavaCompiler;
import javax.tools.ToolProvider;

/**
 * What README.md shows of the class's use is true: its blocks of Java are compiled as one program, in
 * which each call is held against the answer that stands behind it. It shows each call of the face,
 * and names each test.
 */
public final class ReadmeTest {
  private static final Pattern TOLD = Pattern.compile("(x\\.\\w+\\(.*\\)); *// (-?\\d+|[A-Z]+)(:.*)?");
  private static int wrong = 0;

  private static void say(String what) {
    wrong++;
    System.out.println("README.md: " + what);
  }

  public static void main(String[] args) throws Exception {
    String text = Files.readString(Path.of("README.md"));
    List<String> lines = blocks(text);
    showsAll(lines);
    namesAllTests(text);
    int calls = 0;
    StringBuilder program = new StringBuilder(
        "public final class ReadmeUse {\n"
        + "public static int wrong = 0;\n"
        + "static void due(String call, long got, long want) {\n"
        + "if (got != want) { wrong++; System.out.println(\"README.md: \" + call + \" answered \" + got); } }\n"
        + "public static void run() {\n");
    for (String line : lines) {
      Matcher m = TOLD.matcher(line);
      if (m.matches()) {
        calls++;
        program.append(held(m.group(1), m.group(2))).append('\n');
      } else {
        if (line.startsWith("x.")) say("no answer behind " + line);
        program.append(line).append('\n');
      }
    }
    if (calls == 0) say("shows no call");
    if (wrong == 0) wrong += answersWrong(program.append("}\n}\n").toString());
    if (wrong != 0) System.exit(1);
    System.out.println(calls + " calls answer what README.md says");
  }

  private static List<String> blocks(String text) {
    List<String> lines = new ArrayList<>();
    boolean inside = false;
    for (String line : text.split("\n")) {
      if (line.startsWith("```")) inside = line.equals("```java");
      else if (inside) lines.add(line.trim());
    }
    return lines;
  }

  private static String held(String call, String answer) {
    String want = answer.matches("[A-Z]+") ? "BallastSteps." + answer : answer + "L";
    return "due(\"" + call.replace("\"", "\\\"") + " // " + answer + "\", " + call + ", " + want + ");";
  }

  private static void showsAll(List<String> lines) {
    for (Method m : BallastSteps.class.getDeclaredMethods()) {
      if (!Modifier.isPublic(m.getModifiers())) continue;
      boolean shown = lines.stream().anyMatch(line -> line.contains("x." + m.getName() + "("));
      if (!shown) say("does not show " + m.getName());
    }
  }

  private static void namesAllTests(String text) throws IOException {
    try (DirectoryStream<Path> all = Files.newDirectoryStream(Path.of("src/test/java"), "*.java")) {
      for (Path test : all) {
        if (!text.contains("`src/test/java/" + test.getFileName() + "`")) say("does not name " + test);
      }
    }
    Matcher named = Pattern.compile("`((src|\\.ci)/[\\w./]+)`").matcher(text);
    while (named.find()) {
      if (!Files.exists(Path.of(named.group(1)))) say("there is no " + named.group(1));
    }
  }

  private static int answersWrong(String program) throws Exception {
    Path place = Files.createTempDirectory("readme");
    try {
      Path source = place.resolve("ReadmeUse.java");
      Files.writeString(source, program);
      String path = System.getProperty("java.class.path");
      JavaCompiler javac = ToolProvider.getSystemJavaCompiler();
      if (javac == null || javac.run(null, null, null, "-cp", path, "-d", place.toString(), source.toString()) != 0) {
        System.out.println("README.md: its blocks don't compile");
        return 1;
      }
      try (URLClassLoader loader = new URLClassLoader(new URL[] {place.toUri().toURL()})) {
        Class<?> use = loader.loadClass("ReadmeUse");
        use.getMethod("run").invoke(null);
        return use.getField("wrong").getInt(null);
      }
    } finally {
      try (Stream<Path> all = Files.walk(place)) {
        for (Path p : all.sorted(Comparator.reverseOrder()).toList()) Files.delete(p);
      }
    }
  }
}
