import java.util.ArrayList;
import java.util.HashMap;
import java.util.LinkedHashMap;
import java.util.List;
import java.util.Map;
import java.util.Random;
import java.util.TreeMap;

/**
 * Runs of calls, drawn by fixed seeds, against a second reading of the document. The model is
 * written another way on purpose: real arrays with the machine's own exceptions, kinds as classes
 * that override one another, texts by a pattern, plans by whole rows of tanks.
 */
public final class ModelTest {
  private static final int RUNS = 700;
  private static final int CALLS = 512;
  private static int wrong = 0;

  // ---- the model

  private interface Sounded {
    int frame();
    Model model();
    default int soundIt() {
      model().begin(4);
      return frame();
    }
  }

  private static class Plain implements Sounded {
    final Model model;
    int frame, side, mass;
    char water;
    boolean works = true, due;
    Plain(Model model) { this.model = model; }
    public int frame() { return frame; }
    public Model model() { return model; }
    int weight() { return mass; }
    int tellIt() {
      model.begin(1);
      return mass;
    }
    Plain alike(Plain o) {
      frame = o.frame; side = o.side; mass = o.mass; water = o.water;
      return this;
    }
  }

  private static class Wide extends Plain {
    Wide(Model model) { super(model); }
    int weight() { return super.weight() + 1; }
    int tellIt() {
      model.begin(2);
      return super.tellIt() + 100;
    }
    int plainTell() { return super.tellIt(); }
  }

  private static class Twofold extends Wide {
    Twofold(Model model) { super(model); }
    int weight() { return 2 * mass; }
    int tellIt() {
      model.begin(3);
      int wide = super.tellIt();
      return wide + plainTell();
    }
    public int soundIt() {
      model.begin(5);
      return super.soundIt() + 20;
    }
  }

  private static final class Refused extends RuntimeException {
    private static final long serialVersionUID = 1;
    final int answer;
    Refused(int answer) { this.answer = answer; }
  }

  private static final class Model {
    final Object[] sheets = new Object[4];
    List<Plain> tanks = new ArrayList<>();
    int[] bounds = new int[3];
    List<Integer> readings = new ArrayList<>();
    int trace, fault;

    void begin(int body) { trace = trace * 31 + body; }

    static void outside(boolean so) { if (so) throw new Refused(-2); }
    void needShip() { if (tanks.isEmpty()) throw new Refused(-3); }
    Plain tank(int t) {
      if (t < 0 || t >= tanks.size()) throw new Refused(-1);
      return tanks.get(t);
    }
    static void sheetIs(int k) { if (k < 0 || k > 3) throw new Refused(-1); }

    /** The machine's own casts and lengths. */
    static int lengthAs(Object row, int lane) {
      if (lane == 0) return ((byte[]) row).length;
      if (lane == 1) return ((short[]) row).length;
      return ((int[]) row).length;
    }
    static int at(Object row, int i) {
      if (row instanceof byte[]) return ((byte[]) row)[i];
      if (row instanceof short[]) return ((short[]) row)[i];
      return ((int[]) row)[i];
    }
    static List<Integer> taken(Object row, int lane, int i, int n) {
      int length = lengthAs(row, lane);
      if (n < 0) throw new NegativeArraySizeException();
      if (i < 0 || (long) i + n > length) throw new ArrayIndexOutOfBoundsException();
      List<Integer> cells = new ArrayList<>();
      for (int c = 0; c < n; c++) cells.add(at(row, i + c));
      return cells;
    }

    // A load: weights told by tank, twice over or once.
    int trim(Map<Plain, Integer> load) {
      int sum = 0;
      for (Plain p : load.keySet()) sum += load.get(p) * (p.frame - 3);
      return sum;
    }
    int heel(Map<Plain, Integer> load) {
      int sum = 0;
      for (Plain p : load.keySet()) sum += load.get(p) * (p.side - 1);
      return sum;
    }
    int loadAt(Map<Plain, Integer> load, int f) {
      int sum = 0;
      for (Plain p : load.keySet()) sum += (p.frame == f ? 6 : -1) * load.get(p);
      return sum;
    }
    int shear(Map<Plain, Integer> load, int f) {
      return f < 0 ? 0 : shear(load, f - 1) + loadAt(load, f);
    }
    int momentAt(Map<Plain, Integer> load, int f) {
      return f < 0 ? 0 : momentAt(load, f - 1) + shear(load, f);
    }
    int bending(Map<Plain, Integer> load) {
      int most = 0;
      for (int f = 0; f < 7; f++) most = Math.max(most, Math.abs(momentAt(load, f)));
      return most;
    }
    boolean safe(Map<Plain, Integer> load, int times) {
      return Math.abs(trim(load)) <= times * bounds[0] && Math.abs(heel(load)) <= times * bounds[1]
          && bending(load) <= times * bounds[2];
    }
    Map<Plain, Integer> load(String waters) {
      Map<Plain, Integer> load = new LinkedHashMap<>();
      for (int t = 0; t < tanks.size(); t++) {
        if (waters.charAt(t) != 'e') load.put(tanks.get(t), tanks.get(t).weight());
      }
      return load;
    }
    Map<Plain, Integer> half(String waters, int at) {
      Map<Plain, Integer> load = new LinkedHashMap<>();
      for (int t = 0; t < tanks.size(); t++) {
        int weight = tanks.get(t).weight();
        if (t == at) load.put(tanks.get(t), weight);
        else if (waters.charAt(t) != 'e') load.put(tanks.get(t), 2 * weight);
      }
      return load;
    }

    String now() {
      StringBuilder waters = new StringBuilder();
      for (Plain p : tanks) waters.append(p.water);
      return waters.toString();
    }
    final Map<String, Boolean> known = new HashMap<>();
    /** The waters behind a pumping, or null: it can't be. */
    String behind(String waters, int t) {
      char then = waters.charAt(t) == 'e' ? 'n' : 'e';
      String after = waters.substring(0, t) + then + waters.substring(t + 1);
      String key = waters.replace('n', 'o') + t;
      Boolean can = known.get(key);
      if (can == null) {
        can = tanks.get(t).works && safe(half(waters, t), 2) && safe(load(after), 1);
        known.put(key, can);
      }
      return can ? after : null;
    }
    boolean changed(String waters) {
      String now = now();
      for (int t = 0; t < tanks.size(); t++) {
        if (tanks.get(t).due) {
          if (waters.charAt(t) != 'n') return false;
        } else if ((waters.charAt(t) == 'e') != (now.charAt(t) == 'e')) {
          return false;
        }
      }
      return true;
    }

    /** Level by level, each waters with its first row of tanks and how many rows lead there. */
    int reached;
    String first;
    long rows;
    void search() {
      known.clear();
      Map<String, String> level = new TreeMap<>();
      Map<String, Long> counts = new HashMap<>();
      Map<String, Boolean> seen = new HashMap<>();
      first = null;
      rows = 0;
      level.put(now(), "");
      counts.put(now(), 1L);
      while (!level.isEmpty()) {
        for (String s : level.keySet()) seen.put(s, true);
        if (first == null) end(level, counts);
        Map<String, String> next = new TreeMap<>();
        Map<String, Long> nextCounts = new HashMap<>();
        for (String s : level.keySet()) {
          for (int t = 0; t < tanks.size(); t++) {
            String after = behind(s, t);
            if (after == null || seen.containsKey(after)) continue;
            String row = level.get(s) + t;
            next.merge(after, row, (a, b) -> a.compareTo(b) <= 0 ? a : b);
            nextCounts.merge(after, counts.get(s), Long::sum);
          }
        }
        level = next;
        counts = nextCounts;
      }
      reached = seen.size();
    }
    void end(Map<String, String> level, Map<String, Long> counts) {
      for (String s : level.keySet()) {
        if (!changed(s)) continue;
        rows += counts.get(s);
        if (first == null || level.get(s).compareTo(first) < 0) first = level.get(s);
      }
    }

    int ship(int sheet, int lane, int i, int n) {
      sheetIs(sheet);
      outside(lane < 0 || lane > 2);
      StringBuilder text = new StringBuilder();
      for (int c : taken(sheets[sheet], lane, i, n)) text.append(c < 0 || c > 126 ? '#' : (char) c);
      String tank = ";[PWD][0-6][pcs][1-9][eo]";
      if (!text.toString().matches("s(" + tank + "){1,6}")) return -100 - firstFault(text.toString());
      List<Plain> built = new ArrayList<>();
      for (String s : text.substring(2).split(";")) {
        Plain p = ofKind("PWD".indexOf(s.charAt(0)));
        p.frame = s.charAt(1) - 48;
        p.side = "pcs".indexOf(s.charAt(2));
        p.mass = s.charAt(3) - 48;
        p.water = s.charAt(4);
        p.due = p.water == 'o';
        built.add(p);
      }
      tanks = built;
      bounds = new int[] {999, 999, 999};
      readings.clear();
      return tanks.size();
    }
    /** The longest beginning that some way of going on makes a text. */
    int firstFault(String text) {
      String whole = "s;P0p1e;P0p1e;P0p1e;P0p1e;P0p1e;P0p1e";
      for (int p = text.length(); p >= 0; p--) {
        if (p > whole.length()) continue;
        String tried = text.substring(0, p) + whole.substring(p);
        if (tried.matches("s(;[PWD][0-6][pcs][1-9][eo]){1,6}")) return p;
      }
      return 0;
    }
    Plain ofKind(int kind) {
      return kind == 0 ? new Plain(this) : kind == 1 ? new Wide(this) : new Twofold(this);
    }
    static int kindOf(Plain p) { return p instanceof Twofold ? 2 : p instanceof Wide ? 1 : 0; }

    int ofTank(int t, int what) {
      Plain p = tank(t);
      outside(what < 0 || what > 8);
      known.clear();
      int[] all = {kindOf(p), p.frame, p.side, p.mass, p.weight(), "eon".indexOf(p.water), p.works ? 1 : 0,
        behind(now(), t) != null ? 1 : 0, p.due ? 1 : 0};
      return all[what];
    }
    int mass(int t, int v) {
      Plain p = tank(t);
      outside(v < 1 || v > 9);
      int was = p.mass;
      p.mass = v;
      return was;
    }
    int bound(int k, int v) {
      outside(k < 0 || k > 2 || v < 0 || v > 999);
      needShip();
      int was = bounds[k];
      bounds[k] = v;
      return was;
    }
    int due(int set) {
      needShip();
      outside((set & -(1 << tanks.size())) != 0);
      int was = 0;
      for (int t = 0; t < tanks.size(); t++) {
        if (tanks.get(t).due) was += 1 << t;
        tanks.get(t).due = (set & 1 << t) != 0;
      }
      return was;
    }
    int fail(int t) {
      Plain p = tank(t);
      p.works = !p.works;
      return p.works ? 1 : 0;
    }
    int measure(int what) {
      outside(what < 0 || what > 3);
      needShip();
      Map<Plain, Integer> load = load(now());
      return new int[] {1000 + trim(load), 1000 + heel(load), bending(load), safe(load, 1) ? 1 : 0}[what];
    }
    int moment(int f) {
      outside(f < 0 || f > 6);
      needShip();
      return 10000 + momentAt(load(now()), f);
    }
    int pump(int t) {
      tank(t);
      known.clear();
      String after = behind(now(), t);
      if (after == null) throw new Refused(-3);
      tanks.get(t).water = after.charAt(t);
      return "eon".indexOf(after.charAt(t));
    }
    int plan(int k) {
      outside(k < -1 || k > 19);
      needShip();
      search();
      if (k == -1) return first == null ? -9 : first.length();
      return first == null || k >= first.length() ? -9 : first.charAt(k) - '0';
    }
    long plans() {
      needShip();
      search();
      return rows;
    }
    int day(int sheet, int lane, int i, int n, int what) {
      sheetIs(sheet);
      outside(lane < 0 || lane > 2 || n < 0 || n > 30 || what < 0 || what > 15 || what > 4 && what < 10);
      List<Integer> cells = taken(sheets[sheet], lane, i, n);
      needShip();
      for (int c : cells) outside(c < 0 || c > 5);
      known.clear();
      String waters = now();
      for (int c = 0; c < n; c++) {
        int t = cells.get(c);
        String after = t < tanks.size() ? behind(waters, t) : null;
        if (after == null) return what == 1 ? c : -100 - c;
        waters = after;
      }
      if (what >= 10) return what - 10 < tanks.size() ? "eon".indexOf(waters.charAt(what - 10)) : -9;
      int full = waters.replace("e", "").length();
      return new int[] {full - waters.replace("e", "").replace("n", "").length(), -9, full,
        1000 + trim(load(waters)), bending(load(waters))}[what];
    }
    int states() {
      needShip();
      search();
      return reached;
    }
    int worst(int what) {
      outside(what < 0 || what > 2);
      needShip();
      search();
      if (first == null) return -9;
      String waters = now();
      int most = 0;
      for (int k = 0; k <= first.length(); k++) {
        Map<Plain, Integer> load = load(waters);
        most = Math.max(most, new int[] {Math.abs(trim(load)), Math.abs(heel(load)), bending(load)}[what]);
        if (k < first.length()) waters = behind(waters, first.charAt(k) - '0');
      }
      return most;
    }
    int reading(int v) {
      needShip();
      outside(Math.abs((long) v) > 500);
      if (readings.size() == 8) throw new Refused(-4);
      readings.add(v);
      return readings.size() - 1;
    }
    int back(int n) {
      outside(n < 0 || n > readings.size());
      for (int r = 0; r < n; r++) readings.remove(readings.size() - 1);
      return readings.size();
    }
    boolean agrees(int t, Plain other) {
      Plain was = tanks.set(t, other);
      int trim = trim(load(now()));
      tanks.set(t, was);
      for (int v : readings) if (v != trim) return false;
      return true;
    }
    int kinds(int t) {
      Plain p = tank(t);
      int set = 0;
      for (int k = 0; k < 3; k++) if (agrees(t, ofKind(k).alike(p))) set += 1 << k;
      return set;
    }
    int masses(int t) {
      Plain p = tank(t);
      int set = 0;
      for (int m = 1; m < 10; m++) {
        Plain other = ofKind(kindOf(p)).alike(p);
        other.mass = m;
        if (agrees(t, other)) set += 1 << m;
      }
      return set;
    }
    long odds(int which) {
      outside(which < 0 || which > 1);
      needShip();
      int all = 1 << tanks.size();
      int safe = 0;
      for (int s = 0; s < all; s++) {
        StringBuilder waters = new StringBuilder();
        for (int t = 0; t < tanks.size(); t++) waters.append((s & 1 << t) != 0 ? 'o' : 'e');
        if (safe(load(waters.toString()), 1)) safe++;
      }
      int common = java.math.BigInteger.valueOf(safe).gcd(java.math.BigInteger.valueOf(all)).intValue();
      return (which == 0 ? safe : all) / common;
    }
    int sheet(int k, int lane, int n) {
      sheetIs(k);
      outside(lane < 0 || lane > 2 || n > 60);
      sheets[k] = lane == 0 ? new byte[n] : lane == 1 ? (Object) new short[n] : new int[n];
      return 1;
    }
    int lose(int k) {
      sheetIs(k);
      int had = sheets[k] == null ? 0 : 1;
      sheets[k] = null;
      return had;
    }
    int put(int k, int i, int v) {
      sheetIs(k);
      if (sheets[k] instanceof byte[]) ((byte[]) sheets[k])[i] = (byte) v;
      else if (sheets[k] instanceof short[]) ((short[]) sheets[k])[i] = (short) v;
      else ((int[]) sheets[k])[i] = v;
      return 1;
    }
    long cell(int k, int i, int lane) {
      sheetIs(k);
      outside(lane < 0 || lane > 2);
      if (lane == 0) return ((byte[]) sheets[k])[i];
      if (lane == 1) return ((short[]) sheets[k])[i];
      return ((int[]) sheets[k])[i];
    }
    int copy(int k, int i, int other, int j, int n) {
      sheetIs(k);
      sheetIs(other);
      try {
        System.arraycopy(sheets[k], i, sheets[other], j, n);
      } catch (ArrayStoreException e) {
        throw new ClassCastException();
      }
      return n;
    }
    int tell(int t) { return tank(t).tellIt(); }
    int sound(int t) { return tank(t).soundIt(); }
    int as(int t, int kind) {
      Plain p = tank(t);
      outside(kind < 0 || kind > 2);
      Plain taken = kind == 2 ? (Twofold) p : kind == 1 ? (Wide) p : p;
      return taken == p ? 1 : 0;
    }
    int many(int what) {
      outside(what < 0 || what > 4);
      int water = 0, fresh = 0, due = 0;
      for (Plain p : tanks) {
        if (p.water != 'e') water++;
        if (p.water == 'n') fresh++;
        if (p.due) due++;
      }
      return new int[] {tanks.size(), water, fresh, due, readings.size()}[what];
    }
  }

  // ---- calls, drawn and compared

  private static final String[] NAMES = {"ship", "ofTank", "mass", "bound", "due", "fail", "measure", "moment",
    "pump", "plan", "plans", "day", "states", "worst", "reading", "back", "kinds", "masses", "odds", "sheet",
    "lose", "put", "cell", "copy", "tell", "sound", "as", "trace", "fault", "many"};
  private static final String FAULTY = " ship day sheet put cell copy as ";
  private static final String LONG = " plans odds cell ";

  private static long real(BallastSteps x, String name, int[] a) {
    switch (name) {
      case "ship": return x.ship(a[0], a[1], a[2], a[3]);
      case "ofTank": return x.ofTank(a[0], a[1]);
      case "mass": return x.mass(a[0], a[1]);
      case "bound": return x.bound(a[0], a[1]);
      case "due": return x.due(a[0]);
      case "fail": return x.fail(a[0]);
      case "measure": return x.measure(a[0]);
      case "moment": return x.moment(a[0]);
      case "pump": return x.pump(a[0]);
      case "plan": return x.plan(a[0]);
      case "plans": return x.plans();
      case "day": return x.day(a[0], a[1], a[2], a[3], a[4]);
      case "states": return x.states();
      case "worst": return x.worst(a[0]);
      case "reading": return x.reading(a[0]);
      case "back": return x.back(a[0]);
      case "kinds": return x.kinds(a[0]);
      case "masses": return x.masses(a[0]);
      case "odds": return x.odds(a[0]);
      case "sheet": return x.sheet(a[0], a[1], a[2]);
      case "lose": return x.lose(a[0]);
      case "put": return x.put(a[0], a[1], a[2]);
      case "cell": return x.cell(a[0], a[1], a[2]);
      case "copy": return x.copy(a[0], a[1], a[2], a[3], a[4]);
      case "tell": return x.tell(a[0]);
      case "sound": return x.sound(a[0]);
      case "as": return x.as(a[0], a[1]);
      case "trace": return x.trace();
      case "fault": return x.fault();
      default: return x.many(a[0]);
    }
  }

  private static long modelled(Model m, String name, int[] a) {
    switch (name) {
      case "ship": return m.ship(a[0], a[1], a[2], a[3]);
      case "ofTank": return m.ofTank(a[0], a[1]);
      case "mass": return m.mass(a[0], a[1]);
      case "bound": return m.bound(a[0], a[1]);
      case "due": return m.due(a[0]);
      case "fail": return m.fail(a[0]);
      case "measure": return m.measure(a[0]);
      case "moment": return m.moment(a[0]);
      case "pump": return m.pump(a[0]);
      case "plan": return m.plan(a[0]);
      case "plans": return m.plans();
      case "day": return m.day(a[0], a[1], a[2], a[3], a[4]);
      case "states": return m.states();
      case "worst": return m.worst(a[0]);
      case "reading": return m.reading(a[0]);
      case "back": return m.back(a[0]);
      case "kinds": return m.kinds(a[0]);
      case "masses": return m.masses(a[0]);
      case "odds": return m.odds(a[0]);
      case "sheet": return m.sheet(a[0], a[1], a[2]);
      case "lose": return m.lose(a[0]);
      case "put": return m.put(a[0], a[1], a[2]);
      case "cell": return m.cell(a[0], a[1], a[2]);
      case "copy": return m.copy(a[0], a[1], a[2], a[3], a[4]);
      case "tell": return m.tell(a[0]);
      case "sound": return m.sound(a[0]);
      case "as": return m.as(a[0], a[1]);
      case "trace": return m.trace;
      case "fault": return m.fault;
      default: return m.many(a[0]);
    }
  }

  private static int faultOf(RuntimeException e) {
    if (e instanceof NullPointerException) return 1;
    if (e instanceof ClassCastException) return 2;
    if (e instanceof IndexOutOfBoundsException) return 3;
    if (e instanceof NegativeArraySizeException) return 4;
    throw e;
  }

  private static long want(Model m, String name, int[] a) {
    boolean isLong = LONG.contains(" " + name + " ");
    if (FAULTY.contains(" " + name + " ")) m.fault = 0;
    try {
      return modelled(m, name, a);
    } catch (Refused e) {
      return isLong ? Long.MIN_VALUE : e.answer;
    } catch (RuntimeException e) {
      m.fault = faultOf(e);
      return isLong ? Long.MIN_VALUE : -10 - m.fault;
    }
  }

  private final Random random;
  private final BallastSteps x = new BallastSteps();
  private final Model m = new Model();
  private final int run;
  private int calls = 0;

  private ModelTest(int run) {
    this.run = run;
    this.random = new Random(7919L * run + 1);
  }

  private long call(String name, int... a) {
    if (calls >= CALLS || wrong > 20) return 0;
    calls++;
    long want = want(m, name, a);
    long got = real(x, name, a);
    if (got != want) {
      wrong++;
      System.out.println("run " + run + ", call " + calls + ": " + name + java.util.Arrays.toString(a)
          + " answered " + got + ", due is " + want + " with " + m.now());
    }
    return want;
  }

  private int upTo(int most) { return random.nextInt(most + 1); }

  private int wild() {
    int[] odd = {Integer.MIN_VALUE, Integer.MAX_VALUE, -1, 1000, 61, 31, -500, 64};
    return odd[upTo(odd.length - 1)];
  }

  private int mostly(int least, int most) {
    int draw = upTo(60);
    if (draw == 0) return wild();
    if (draw == 1) return least - 1;
    if (draw == 2) return most + 1;
    return least + upTo(most - least);
  }

  private String text() {
    int tanks = upTo(11) == 0 ? 7 : 1 + upTo(5);
    boolean light = random.nextBoolean();
    StringBuilder text = new StringBuilder("s");
    for (int t = 0; t < tanks; t++) {
      text.append(';').append("PWD".charAt(upTo(2))).append(upTo(6)).append("pcs".charAt(upTo(2)));
      text.append(1 + upTo(light ? 3 : 8)).append(upTo(2) == 0 ? 'e' : 'o');
    }
    int spoilt = upTo(9);
    if (spoilt == 0) text.setLength(upTo(text.length()));
    if (spoilt == 1) text.setCharAt(upTo(text.length() - 1), ";sPe05x".charAt(upTo(6)));
    if (spoilt == 2) text.append(";se".charAt(upTo(2)));
    return text.toString();
  }

  private void tellShip() {
    String text = text();
    int lane = upTo(2);
    int k = upTo(3);
    int from = Math.min(upTo(3), 60 - text.length());
    call("sheet", k, lane, text.length() + from);
    for (int i = 0; i < text.length(); i++) call("put", k, from + i, text.charAt(i));
    call("ship", k, lane, from, text.length());
    call("fault");
  }

  /** Bounds near what is now, where it matters on which side of them all is. */
  private void tightBounds() {
    if (m.tanks.isEmpty()) return;
    int trim = Math.abs(m.measure(0) - 1000), heel = Math.abs(m.measure(1) - 1000), bending = m.measure(2);
    call("bound", 0, Math.min(999, trim + upTo(12)));
    if (upTo(1) == 0) call("bound", 1, Math.min(999, heel + upTo(10)));
    if (upTo(2) == 0) call("bound", 2, Math.min(999, bending + upTo(60)));
  }

  private void askPlan() {
    int length = (int) call("plan", -1);
    for (int k = 0; k < length && k < 20; k++) call("plan", k);
    call("plans");
    call("states");
    call("worst", upTo(2));
  }

  private void tellDay() {
    int n = upTo(6);
    int k = upTo(3), lane = upTo(2);
    call("sheet", k, lane, n);
    for (int i = 0; i < n; i++) call("put", k, i, upTo(30) == 0 ? mostly(0, 5) : upTo(Math.max(0, m.tanks.size() - 1)));
    for (int w = 0; w < 4; w++) call("day", k, lane, 0, n, upTo(1) == 0 ? upTo(4) : 10 + upTo(5));
    call("day", k, lane, 0, n, 1);
  }

  private void readings() {
    if (m.tanks.isEmpty()) return;
    call("back", m.readings.size());
    call("reading", m.measure(0) - 1000 + upTo(8) - 4);
    for (int t = 0; t < m.tanks.size(); t++) {
      call("kinds", t);
      call("masses", t);
    }
  }

  private int[] drawn(String name) {
    int tanks = Math.max(1, m.tanks.size());
    switch (name) {
      case "ship": return new int[] {mostly(0, 3), mostly(0, 2), mostly(0, 3), mostly(0, 60)};
      case "ofTank": return new int[] {mostly(0, tanks - 1), mostly(0, 8)};
      case "mass": return new int[] {mostly(0, tanks - 1), mostly(1, 9)};
      case "bound": return new int[] {mostly(0, 2), upTo(3) == 0 ? mostly(0, 999) : mostly(0, 200)};
      case "due": return new int[] {mostly(0, (1 << tanks) - 1)};
      case "measure": return new int[] {mostly(0, 3)};
      case "moment": return new int[] {mostly(0, 6)};
      case "plan": return new int[] {mostly(-1, 19)};
      case "day": return new int[] {mostly(0, 3), mostly(0, 2), mostly(0, 5), mostly(0, 6),
        random.nextBoolean() ? mostly(0, 4) : mostly(10, 15)};
      case "worst": return new int[] {mostly(0, 2)};
      case "reading": return new int[] {mostly(-500, 500)};
      case "back": return new int[] {mostly(0, m.readings.size())};
      case "odds": return new int[] {mostly(0, 1)};
      case "sheet": return new int[] {mostly(0, 3), mostly(0, 2), mostly(0, 60)};
      case "lose": return new int[] {mostly(0, 3)};
      case "put": return new int[] {mostly(0, 3), mostly(0, 20), random.nextInt() >> upTo(31)};
      case "cell": return new int[] {mostly(0, 3), mostly(0, 20), mostly(0, 2)};
      case "copy": return new int[] {mostly(0, 3), mostly(0, 9), mostly(0, 3), mostly(0, 9), mostly(0, 20)};
      case "as": return new int[] {mostly(0, tanks - 1), mostly(0, 2)};
      case "many": return new int[] {mostly(0, 4)};
      default: return new int[] {mostly(0, tanks - 1)};
    }
  }

  private void goOn() {
    for (int step = 0; step < CALLS && calls < CALLS; step++) {
      int draw = upTo(60);
      if (draw == 0 || m.tanks.isEmpty() && draw < 20) tellShip();
      else if (draw < 4) tightBounds();
      else if (draw < 7) askPlan();
      else if (draw < 9) tellDay();
      else if (draw < 11) readings();
      else {
        String name = NAMES[upTo(NAMES.length - 1)];
        call(name, drawn(name));
      }
      if (draw % 7 == 0) call("fault");
    }
  }

  // ---- all edges of all arguments at once, so that any two refusals or faults meet

  private static final int MIN = Integer.MIN_VALUE, MAX = Integer.MAX_VALUE;
  private static final int BEGINNINGS = 4;
  private static final int[] SHEETS = {-1, 0, 1, 2, 3, 4};
  private static final int[] LANES = {-1, 0, 1, 2, 3};
  private static final int[] PLACES = {MIN, -1, 0, 1, 2, 3, 7, 8, MAX};
  private static final int[] TANKS = {MIN, -1, 0, 1, 5, 6, 31, 32, MAX};

  private static int[][] edgesOf(String name) {
    switch (name) {
      case "ship": return new int[][] {SHEETS, LANES, PLACES, {MIN, -1, 0, 1, 6, 7, 8, 37, 60, 61, MAX}};
      case "ofTank": return new int[][] {TANKS, {MIN, -1, 0, 1, 2, 3, 4, 5, 6, 7, 8, 9, MAX}};
      case "mass": return new int[][] {TANKS, {MIN, -1, 0, 1, 9, 10, MAX}};
      case "bound": return new int[][] {{MIN, -1, 0, 1, 2, 3, MAX}, {MIN, -1, 0, 1, 999, 1000, MAX}};
      case "due": return new int[][] {{MIN, -64, -1, 0, 1, 2, 3, 63, 64, 65, MAX}};
      case "measure": return new int[][] {{MIN, -1, 0, 1, 2, 3, 4, MAX}};
      case "moment": return new int[][] {{MIN, -1, 0, 1, 5, 6, 7, MAX}};
      case "plan": return new int[][] {{MIN, -2, -1, 0, 1, 11, 12, 19, 20, MAX}};
      case "day": return new int[][] {SHEETS, LANES, PLACES, {MIN, -1, 0, 1, 2, 3, 30, 31, MAX},
        {MIN, -1, 0, 1, 2, 3, 4, 5, 9, 10, 11, 15, 16, MAX}};
      case "worst": return new int[][] {{MIN, -1, 0, 1, 2, 3, MAX}};
      case "reading": return new int[][] {{MIN, -501, -500, 0, 500, 501, MAX}};
      case "back": return new int[][] {{MIN, -1, 0, 1, 7, 8, 9, MAX}};
      case "odds": return new int[][] {{MIN, -1, 0, 1, 2, MAX}};
      case "sheet": return new int[][] {SHEETS, LANES, {MIN, -1, 0, 1, 59, 60, 61, MAX}};
      case "lose": return new int[][] {SHEETS};
      case "put": return new int[][] {SHEETS, PLACES, {MIN, -129, -128, 127, 128, 32767, 32768, MAX}};
      case "cell": return new int[][] {SHEETS, PLACES, LANES};
      case "copy": return new int[][] {SHEETS, PLACES, SHEETS, PLACES, {MIN, -1, 0, 1, 2, 3, 7, 8, MAX}};
      case "as": return new int[][] {TANKS, {MIN, -1, 0, 1, 2, 3, MAX}};
      case "many": return new int[][] {{MIN, -1, 0, 1, 2, 3, 4, 5, MAX}};
      case "plans": case "states": case "trace": case "fault": return new int[][] {};
      default: return new int[][] {TANKS};
    }
  }

  private void fill(int k, int lane, String text) {
    call("sheet", k, lane, text.length());
    for (int i = 0; i < text.length(); i++) call("put", k, i, text.charAt(i));
  }

  /** A new object; one with rows alone; one tank; six tanks, with a fault told last and all READINGS. */
  private void begin(int how) {
    if (how == 0) return;
    if (how > 1) {
      String text = how == 2 ? "s;D0c1o" : "s;P0p1o;W6s2e;D3c3o;P1p4o;W5s5e;D4c1o";
      fill(0, 0, text);
      call("ship", 0, 0, 0, text.length());
    }
    fill(0, 0, "s;W6s1e");
    fill(1, 1, "\u0000\u0001\u0007");
    fill(2, 2, how == 1 ? "" : "\u0001\u0000");
    if (how < 3) return;
    call("lose", 2);
    call("bound", 0, 20);
    call("pump", 0);
    call("fail", 2);
    for (int r = 0; r < 8; r++) call("reading", m.measure(0) - 1000);
    call("put", 2, 0, 0);
  }

  private static void tryEdges(String name) {
    int[][] edges = edgesOf(name);
    int all = 1;
    for (int[] of : edges) all *= of.length;
    for (int how = 0; how < BEGINNINGS; how++) {
      for (int draw = 0; draw < all; draw++) {
        int[] args = new int[edges.length];
        int rest = draw;
        for (int a = 0; a < args.length; a++) {
          args[a] = edges[a][rest % edges[a].length];
          rest /= edges[a].length;
        }
        ModelTest one = new ModelTest(-1 - how);
        one.begin(how);
        one.call(name, args);
        one.call("fault");
        for (int w = 0; w < 5; w++) one.call("many", w);
      }
    }
  }

  public static void main(String[] args) {
    for (int run = 0; run < RUNS; run++) new ModelTest(run).goOn();
    for (String name : NAMES) tryEdges(name);
    if (wrong != 0) System.exit(1);
    System.out.println(RUNS + " runs and all edges agree with the model");
  }
}
