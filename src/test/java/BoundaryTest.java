import java.io.IOException;
import java.lang.reflect.Method;
import java.nio.file.DirectoryStream;
import java.nio.file.Files;
import java.nio.file.Path;
import java.util.ArrayList;
import java.util.Arrays;
import java.util.HashMap;
import java.util.List;
import java.util.Map;
import java.util.Set;
import java.util.TreeSet;

/**
 * The sentences of the document that name a boundary case, each with a run of calls of its own: they
 * stand in src/test/boundaries, README.md tells their form. Beside the answers, each call that is
 * refused, comes to a FAULT or only asks is held against a second object that was not called: no
 * answer of any other call may differ, but for fault(), which must be as the document says.
 */
public final class BoundaryTest {
  private static final Path PLACE = Path.of("src/test/boundaries");
  private static final int MOST_CALLS = 512;
  private static final int PROMISES = 31;
  private static final List<String> FAULTS = List.of("", "NULL", "CAST", "INDEX", "SIZE");
  private static final Set<String> NAME_FAULTS = Set.of("ship", "day", "sheet", "put", "cell", "copy", "as");
  private static final Set<String> CHANGE = Set.of("ship", "mass", "bound", "due", "fail", "pump", "reading",
      "back", "sheet", "lose", "put", "copy", "tell", "sound");
  private static final Map<String, Long> NAMES = new HashMap<>();
  private static final Map<String, Method> METHODS = new HashMap<>();
  private static int wrong = 0;
  private static int passed = 0;

  static {
    NAMES.put("UNKNOWN", -1L);
    NAMES.put("OUTSIDE", -2L);
    NAMES.put("STATE", -3L);
    NAMES.put("FULL", -4L);
    NAMES.put("NONE", -9L);
    NAMES.put("LOST", Long.MIN_VALUE);
    NAMES.put("MAX", (long) Integer.MAX_VALUE);
    NAMES.put("MIN", (long) Integer.MIN_VALUE);
    for (int f = 1; f < FAULTS.size(); f++) NAMES.put(FAULTS.get(f), -10L - f);
    for (Method m : BallastSteps.class.getMethods()) {
      if (m.getDeclaringClass() == BallastSteps.class) METHODS.put(m.getName(), m);
    }
  }

  /** One call, the answer that is due, and why, where LOST does not tell it. */
  private record Call(String told, String name, Object[] args, long want, String why) {
    boolean isRefused() {
      return !why.isEmpty() || name.equals("ship") && want <= -100;
    }

    boolean changes() {
      return CHANGE.contains(name) && !isRefused() && !(name.equals("lose") && want == 0);
    }

    /** What fault() tells behind it, if it told this ahead. */
    int faultBehind(int ahead) {
      return NAME_FAULTS.contains(name) ? Math.max(0, FAULTS.indexOf(why)) : ahead;
    }
  }

  /** An object that counts its calls: what it answers beyond the 512th is free. */
  private static final class Counted {
    final BallastSteps x = new BallastSteps();
    int calls = 0;

    long call(String name, Object... args) throws Exception {
      calls++;
      if (calls > MOST_CALLS) throw new IllegalStateException("more than " + MOST_CALLS + " calls");
      return ((Number) METHODS.get(name).invoke(x, args)).longValue();
    }

    Counted behind(List<Call> calls, int n) throws Exception {
      for (Call c : calls.subList(0, n)) call(c.name, c.args);
      return this;
    }
  }

  public static void main(String[] args) throws Exception {
    Set<String> begun = new TreeSet<>();
    for (Path file : files()) runAll(file, begun);
    for (int p = 1; p <= PROMISES; p++) {
      if (!begun.contains(String.valueOf(p))) say("no sentence of promise " + p);
    }
    everyCodeAtEveryPlace();
    if (wrong != 0) System.exit(1);
    System.out.println(passed + " sentences of boundary cases hold");
  }

  private static void say(String what) {
    wrong++;
    System.out.println(what);
  }

  // ---- the files

  private static List<Path> files() throws IOException {
    List<Path> found = new ArrayList<>();
    try (DirectoryStream<Path> all = Files.newDirectoryStream(PLACE, "*.txt")) {
      for (Path file : all) found.add(file);
    }
    found.sort(null);
    return found;
  }

  private static void runAll(Path file, Set<String> begun) throws Exception {
    String sentence = "";
    List<Call> run = new ArrayList<>();
    List<String> lines = new ArrayList<>(Files.readAllLines(file));
    lines.add("== end");
    for (String line : lines) {
      if (line.startsWith("== ")) {
        if (!run.isEmpty()) check(sentence, run);
        else if (!sentence.isEmpty()) say("nothing told: " + sentence);
        sentence = line.substring(3);
        begun.add(sentence.split("[ :]")[0]);
        run = new ArrayList<>();
      } else if (!line.isBlank() && !line.startsWith("#")) {
        read(line.trim(), run);
      }
    }
  }

  private static void read(String line, List<Call> run) {
    String[] words = line.split(" +");
    switch (words[0]) {
      case "text":
        fill(line, run, number(words[1]), number(words[2]), codes(words, 3));
        break;
      case "row":
        fill(line, run, number(words[1]), number(words[2]), numbers(words, 3, words.length));
        break;
      case "vessel":
        int[] codes = codes(words, 1);
        fill(line, run, 3, 0, codes);
        run.add(call(line, "ship", codes.length / 6, 3, 0, 0, codes.length));
        run.add(call(line, "lose", 1, 3));
        break;
      default:
        run.add(told(line, words));
    }
  }

  private static Call told(String line, String[] words) {
    int equals = Arrays.asList(words).indexOf("=");
    Method m = METHODS.get(words[0]);
    if (m == null || equals != m.getParameterCount() + 1 || words.length != equals + 2) {
      throw new IllegalArgumentException("not a call with its answer: " + line);
    }
    Object[] args = new Object[equals - 1];
    for (int a = 1; a < equals; a++) args[a - 1] = number(words[a]);
    String[] want = words[equals + 1].split(":");
    boolean isRefusal = want[0].matches("[A-Z]+") && !want[0].matches("NONE|MAX|MIN");
    boolean isLong = m.getReturnType() == long.class;
    if (isRefusal && isLong != (want.length == 2)) throw new IllegalArgumentException(line);
    return new Call(line, words[0], args, longNumber(want[0]), isRefusal ? want[want.length - 1] : "");
  }

  private static Call call(String line, String name, long want, Object... args) {
    return new Call(line, name, args, want, "");
  }

  private static void fill(String line, List<Call> run, int k, int lane, int[] cells) {
    run.add(call(line, "sheet", 1, k, lane, cells.length));
    for (int i = 0; i < cells.length; i++) run.add(call(line, "put", 1, k, i, cells[i]));
  }

  private static int[] codes(String[] words, int at) {
    return at < words.length ? words[at].chars().toArray() : new int[0];
  }

  private static int[] numbers(String[] words, int from, int to) {
    int[] all = new int[to - from];
    for (int w = from; w < to; w++) all[w - from] = number(words[w]);
    return all;
  }

  private static long longNumber(String word) {
    return NAMES.containsKey(word) ? NAMES.get(word) : Long.parseLong(word);
  }

  private static int number(String word) {
    return Math.toIntExact(longNumber(word));
  }

  // ---- a run

  private static void check(String sentence, List<Call> run) throws Exception {
    int before = wrong;
    Counted x = new Counted();
    for (Call c : run) {
      long got = x.call(c.name, c.args);
      if (got != c.want) say(sentence + "\n  " + c.told + " - " + c.name + " answered " + got);
    }
    for (int n = 0; n < run.size(); n++) checkRest(sentence, run, n);
    if (wrong == before) passed++;
  }

  /** That call n leaves fault() as told, and all else as it was, if it changes nothing. */
  private static void checkRest(String sentence, List<Call> run, int n) throws Exception {
    Call c = run.get(n);
    long ahead = new Counted().behind(run, n).call("fault");
    long fault = new Counted().behind(run, n + 1).call("fault");
    if (fault != c.faultBehind((int) ahead)) say(sentence + "\n  " + c.told + " - fault() tells " + fault);
    if (c.changes()) return;
    List<String> without = allOf(new Counted().behind(run, n));
    List<String> with = allOf(new Counted().behind(run, n + 1));
    for (int a = 0; a < Math.min(with.size(), without.size()); a++) {
      if (!with.get(a).equals(without.get(a))) {
        say(sentence + "\n  " + c.told + " - changed " + without.get(a) + " to " + with.get(a));
        return;
      }
    }
  }

  /** All that can be seen of an object, which is used up by it. */
  private static List<String> allOf(Counted x) throws Exception {
    List<String> all = new ArrayList<>();
    ask(all, x, "trace");
    for (int w = 0; w < 5; w++) ask(all, x, "many", w);
    int tanks = (int) x.call("many", 0);
    for (int t = 0; t < tanks; t++) {
      for (int w = 0; w < 9; w++) ask(all, x, "ofTank", t, w);
    }
    for (int w = 0; w < 4; w++) ask(all, x, "measure", w);
    for (int k = -1; k < 20; k++) ask(all, x, "plan", k);
    for (String name : new String[] {"plans", "states"}) ask(all, x, name);
    for (int w = 0; w < 3; w++) ask(all, x, "worst", w);
    for (int w = 0; w < 2; w++) ask(all, x, "odds", w);
    for (int r = (int) x.call("many", 4); r >= 0; r--) {
      for (int t = 0; t < tanks; t++) ask(all, x, "masses", t);
      if (r > 0) ask(all, x, "back", 1);
    }
    for (int k = 0; k < 3; k++) ask(all, x, "bound", k, 0);
    for (int k = 0; k < 4; k++) sheetOf(all, x, k);
    return all;
  }

  private static void ask(List<String> all, Counted x, String name, Object... args) throws Exception {
    all.add(name + Arrays.toString(args) + " " + x.call(name, args));
  }

  private static void sheetOf(List<String> all, Counted x, int k) throws Exception {
    int lane = 0;
    x.call("cell", k, 0, lane);
    while (lane < 2 && x.call("fault") == 2) {
      lane++;
      x.call("cell", k, 0, lane);
    }
    StringBuilder cells = new StringBuilder("sheet " + k + " of lane " + lane);
    for (int i = 0; i <= 60; i++) {
      long cell = x.call("cell", k, i, lane);
      if (cell == Long.MIN_VALUE) break;
      cells.append(' ').append(cell);
    }
    all.add(cells.append(" fault ").append(x.call("fault")).toString());
  }

  // ---- what is too long to be told by hand

  /** FIRST FAULT: every code at every place of a text of six tanks, and at the place of a seventh. */
  private static void everyCodeAtEveryPlace() throws Exception {
    String text = "s;P0p1e;W6c9o;D3s5e;P1c2o;W2s3e;D4p8o;";
    String[] taken = {";", "PWD", "0123456", "pcs", "123456789", "eo"};
    int before = wrong;
    for (int place = 0; place < text.length(); place++) {
      String goesOn = place == 0 ? "s" : place == 37 ? "" : taken[(place - 1) % 6];
      for (int code = -300; code <= 400; code++) {
        boolean isTaken = code >= 0 && goesOn.indexOf(code) >= 0;
        Counted x = new Counted();
        x.call("sheet", 0, 2, text.length());
        for (int i = 0; i <= place; i++) x.call("put", 0, i, i == place ? code : text.charAt(i));
        long want = -100 - place - (isTaken ? 1 : 0);
        if (isTaken && place > 0 && place % 6 == 0) want = place / 6;
        // The cells behind it are 0 still, so that a code that is taken only ends the text too soon.
        long got = x.call("ship", 0, 2, 0, place + 1);
        if (got != want) say("code " + code + " at place " + place + " answered " + got + ", due is " + want);
      }
    }
    if (wrong == before) passed++;
  }
}
