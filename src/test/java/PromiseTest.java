/** Each promise of the document, with answers that were reckoned by hand. */
public final class PromiseTest {
  private static final int NULL = -11, CAST = -12, INDEX = -13, SIZE = -14;
  private static final int MAX = Integer.MAX_VALUE, MIN = Integer.MIN_VALUE;
  private static int wrong = 0;

  private static void due(String what, long got, long want) {
    if (got != want) {
      wrong++;
      System.out.println(what + " answered " + got + ", due is " + want);
    }
  }

  /** Tells a text by sheet 0, a row of bytes. */
  private static int tellShip(BallastSteps x, String text) {
    fill(x, 0, 0, text);
    return x.ship(0, 0, 0, text.length());
  }

  private static void fill(BallastSteps x, int k, int lane, String text) {
    x.sheet(k, lane, text.length());
    for (int i = 0; i < text.length(); i++) x.put(k, i, text.charAt(i));
  }

  private static void fillNumbers(BallastSteps x, int k, int lane, int... cells) {
    x.sheet(k, lane, cells.length);
    for (int i = 0; i < cells.length; i++) x.put(k, i, cells[i]);
  }

  private static BallastSteps shipOf(String text) {
    BallastSteps x = new BallastSteps();
    due("ship of " + text, tellShip(x, text), text.length() / 6);
    return x;
  }

  private static void dueMany(BallastSteps x, String when, int... want) {
    for (int w = 0; w < want.length; w++) due(when + ": many(" + w + ")", x.many(w), want[w]);
  }

  private static void duePlan(BallastSteps x, String when, int... want) {
    due(when + ": plan(-1)", x.plan(-1), want.length);
    for (int k = 0; k < 20; k++) {
      due(when + ": plan(" + k + ")", x.plan(k), k < want.length ? want[k] : BallastSteps.NONE);
    }
  }

  public static void main(String[] args) {
    newObject();
    ship();
    shipFaults();
    ofTank();
    mass();
    bound();
    dueSets();
    fail();
    measure();
    moment();
    pump();
    plan();
    plans();
    longPlan();
    day();
    dayRefusals();
    states();
    worst();
    readings();
    back();
    kinds();
    masses();
    odds();
    sheet();
    lose();
    put();
    cell();
    copy();
    tell();
    sound();
    as();
    fault();
    many();
    staleAnswers();
    if (wrong != 0) System.exit(1);
    System.out.println("all promises hold");
  }

  private static void newObject() {
    BallastSteps x = new BallastSteps();
    dueMany(x, "new", 0, 0, 0, 0, 0);
    for (int k = 0; k < 4; k++) due("new: lose(" + k + ")", x.lose(k), 0);
    due("new: trace", x.trace(), 0);
    due("new: fault", x.fault(), 0);
    due("new: states", x.states(), BallastSteps.STATE);
  }

  private static void ship() {
    String[] texts = {"s;P0p1e", "s;D6s9o;W3c5e", "", "s", "x", "S;P0p1e", "ss", "s:", "s;", "s;p",
      "s;X0p1e", "s;P", "s;P7", "s;P/", "s;P0", "s;P0x", "s;P0P", "s;P0p", "s;P0p0", "s;P0p:",
      "s;P0p1", "s;P0p1n", "s;P0p1O", "s;P0p1e;", "s;P0p1es", "s;P0p1e;W", "s;P0p1e;W1s9",
      "s;P0p1e;P1p1e;P2p1e;P3p1e;P4p1e;P5p1e", "s;P0p1e;P1p1e;P2p1e;P3p1e;P4p1e;P5p1e;",
      "s;P0p1e;P1p1e;P2p1e;P3p1e;P4p1e;P5p1e;P6p1e", "s;P0p1e;P1p1e;P2p1e;P3p1e;P4p1e;P5p1ex",
      "s;P0p1e;P1p1e;P2p1e;P3p1e;P4p1e;P5p1"};
    int[] want = {1, 2, -100, -101, -100, -100, -101, -101, -102, -102,
      -102, -103, -103, -103, -104, -104, -104, -105, -105, -105,
      -106, -106, -106, -108, -107, -109, -112,
      6, -137, -137, -137, -136};
    BallastSteps x = new BallastSteps();
    for (int i = 0; i < texts.length; i++) {
      due("text " + texts[i], tellShip(x, texts[i]), want[i]);
      due("fault of text " + texts[i], x.fault(), 0);
    }
    due("a refused text changes nothing", x.many(0), 6);
    fill(x, 3, 2, "##s;D6s9o##");
    due("text amid a row", x.ship(3, 2, 2, 7), 1);
    due("its kind", x.ofTank(0, 0), 2);
    due("its frame", x.ofTank(0, 1), 6);
    due("its side", x.ofTank(0, 2), 2);
    due("its mass", x.ofTank(0, 3), 9);
    due("its water", x.ofTank(0, 5), 1);
    makesAnew();
  }

  private static void makesAnew() {
    BallastSteps x = shipOf("s;P0p1e;W6s2o");
    x.bound(0, 5);
    x.bound(1, 6);
    x.bound(2, 7);
    x.fail(0);
    x.reading(4);
    x.tell(0);
    x.due(1);
    due("a wrong text", tellShip(x, "s;"), -102);
    dueMany(x, "behind a wrong text", 2, 1, 0, 1, 1);
    due("a text anew", tellShip(x, "s;P0p1o;W6s2e"), 2);
    due("bound 0 anew", x.bound(0, 1), 999);
    due("bound 1 anew", x.bound(1, 1), 999);
    due("bound 2 anew", x.bound(2, 1), 999);
    due("pump anew", x.ofTank(0, 6), 1);
    due("trace stays", x.trace(), 1);
    due("due anew", x.due(0), 1);
    dueMany(x, "anew", 2, 1, 0, 0, 0);
    due("the sheet stays", x.cell(0, 0, 0), 's');
  }

  private static void shipFaults() {
    BallastSteps x = new BallastSteps();
    due("ship(-1)", x.ship(-1, 0, 0, 0), BallastSteps.UNKNOWN);
    due("ship(4)", x.ship(4, 9, 0, 0), BallastSteps.UNKNOWN);
    due("ship lane -1", x.ship(0, -1, 0, 0), BallastSteps.OUTSIDE);
    due("ship lane 3", x.ship(0, 3, 0, 0), BallastSteps.OUTSIDE);
    due("ship of nothing", x.ship(0, 0, 0, -1), NULL);
    due("fault of it", x.fault(), 1);
    fill(x, 0, 1, "s;P0p1e");
    due("ship of another lane", x.ship(0, 0, -1, -1), CAST);
    due("fault of it", x.fault(), 2);
    due("ship below 0", x.ship(0, 1, -1, -1), SIZE);
    due("fault of it", x.fault(), 4);
    due("ship before the row", x.ship(0, 1, -1, 7), INDEX);
    due("fault of it", x.fault(), 3);
    due("ship beyond the row", x.ship(0, 1, 0, 8), INDEX);
    due("ship beyond the row", x.ship(0, 1, 1, 7), INDEX);
    due("ship far beyond", x.ship(0, 1, MAX, MAX), INDEX);
    due("none taken, beyond", x.ship(0, 1, 8, 0), INDEX);
    due("none taken, before", x.ship(0, 1, -1, 0), INDEX);
    due("none taken at the end", x.ship(0, 1, 7, 0), -100);
    due("fault of it", x.fault(), 0);
    due("no ship by all that", x.many(0), 0);
    due("ship", x.ship(0, 1, 0, 7), 1);
  }

  private static void ofTank() {
    BallastSteps x = shipOf("s;P1p4o;W5c4e;D3s4o");
    int[][] want = {{0, 1, 0, 4, 4, 1, 1, 1, 1}, {1, 5, 1, 4, 5, 0, 1, 1, 0},
      {2, 3, 2, 4, 8, 1, 1, 1, 1}};
    for (int t = 0; t < 3; t++) {
      for (int w = 0; w < 9; w++) due("ofTank(" + t + ", " + w + ")", x.ofTank(t, w), want[t][w]);
      due("what -1", x.ofTank(t, -1), BallastSteps.OUTSIDE);
      due("what 9", x.ofTank(t, 9), BallastSteps.OUTSIDE);
    }
    due("tank -1", x.ofTank(-1, 9), BallastSteps.UNKNOWN);
    due("tank 3", x.ofTank(3, 0), BallastSteps.UNKNOWN);
    x.fail(0);
    due("a pump that failed", x.ofTank(0, 6), 0);
    due("can't be pumped", x.ofTank(0, 7), 0);
    x.fail(0);
    // TRIM is -8 now; it goes to 0 with tank 0 pumped out, to 2 with tank 1 pumped in.
    x.bound(0, 3);
    due("halfway -4 is more than 3", x.ofTank(0, 7), 0);
    x.bound(0, 4);
    due("halfway -4 is within 4", x.ofTank(0, 7), 1);
    due("halfway -3 is within 4", x.ofTank(1, 7), 1);
    due("-8 itself is not", x.measure(3), 0);
  }

  private static void mass() {
    BallastSteps x = shipOf("s;P1p4o;W5c4e;D3s4o");
    due("mass", x.mass(1, 9), 4);
    due("mass again", x.mass(1, 1), 9);
    due("weight", x.ofTank(1, 4), 2);
    due("mass 0", x.mass(1, 0), BallastSteps.OUTSIDE);
    due("mass 10", x.mass(1, 10), BallastSteps.OUTSIDE);
    due("mass of none", x.mass(3, 0), BallastSteps.UNKNOWN);
    due("mass of none", x.mass(-1, 1), BallastSteps.UNKNOWN);
    due("mass as it was", x.ofTank(1, 3), 1);
  }

  private static void bound() {
    BallastSteps x = new BallastSteps();
    due("bound without ship", x.bound(0, 0), BallastSteps.STATE);
    due("bound 3 without ship", x.bound(3, 0), BallastSteps.OUTSIDE);
    due("bound to 1000 without ship", x.bound(0, 1000), BallastSteps.OUTSIDE);
    tellShip(x, "s;P1p4o");
    for (int k = 0; k < 3; k++) {
      due("bound " + k, x.bound(k, k), 999);
      due("bound " + k, x.bound(k, 999), k);
      due("bound to -1", x.bound(k, -1), BallastSteps.OUTSIDE);
      due("bound to 1000", x.bound(k, 1000), BallastSteps.OUTSIDE);
      due("bound " + k, x.bound(k, 0), 999);
    }
    due("bound -1", x.bound(-1, 0), BallastSteps.OUTSIDE);
  }

  private static void dueSets() {
    BallastSteps x = new BallastSteps();
    due("due without ship", x.due(-1), BallastSteps.STATE);
    tellShip(x, "s;P1p4o;W5c4e;D3s4o");
    due("due at first", x.due(7), 5);
    due("due then", x.due(0), 7);
    due("due of tank 3", x.due(8), BallastSteps.OUTSIDE);
    due("due below 0", x.due(MIN), BallastSteps.OUTSIDE);
    due("due as it was", x.due(2), 0);
    due("tank 1 is due", x.ofTank(1, 8), 1);
    tellShip(x, "s;P0p1o;P1p1o;P2p1o;P3p1o;P4p1o;P5p1o");
    due("due of six", x.due(63), 63);
    due("due of a seventh", x.due(64), BallastSteps.OUTSIDE);
  }

  private static void fail() {
    BallastSteps x = shipOf("s;P1p4o;W5c4e");
    due("it fails", x.fail(1), 0);
    due("pump", x.pump(1), BallastSteps.STATE);
    due("pump of another", x.pump(0), 0);
    due("it works again", x.fail(1), 1);
    due("pump", x.pump(1), 2);
    due("fail of none", x.fail(2), BallastSteps.UNKNOWN);
    due("fail of none", x.fail(-1), BallastSteps.UNKNOWN);
  }

  private static void measure() {
    BallastSteps x = new BallastSteps();
    due("measure(-1)", x.measure(-1), BallastSteps.OUTSIDE);
    due("measure(4)", x.measure(4), BallastSteps.OUTSIDE);
    due("measure(3)", x.measure(3), BallastSteps.STATE);
    tellShip(x, "s;D0p9o;W6s3o;P6c9e");
    due("TRIM", x.measure(0), 1000 - 54 + 12);
    due("HEEL", x.measure(1), 1000 - 18 + 4);
    due("BENDING", x.measure(2), 300);
    due("SAFE", x.measure(3), 1);
    int[] least = {42, 14, 300};
    for (int k = 0; k < 3; k++) {
      x.bound(k, least[k]);
      due("at bound " + k, x.measure(3), 1);
      x.bound(k, least[k] - 1);
      due("beyond bound " + k, x.measure(3), 0);
      x.bound(k, 999);
    }
    tellShip(x, "s;D0c9o;D0c9o;D0c9o;D0c9o;D0c9o;D0c9o");
    due("the greatest BENDING", x.measure(2), 2268);
    due("it is not SAFE", x.measure(3), 0);
    tellShip(x, "s;D6s9o;D6s9o;D6s9o;D6s9o;D6s9o;D6s9o");
    due("the greatest TRIM", x.measure(0), 1324);
    due("the greatest HEEL", x.measure(1), 1108);
    due("BENDING without sign", x.measure(2), 2268);
  }

  private static void moment() {
    BallastSteps x = new BallastSteps();
    due("moment(-1)", x.moment(-1), BallastSteps.OUTSIDE);
    due("moment(7)", x.moment(7), BallastSteps.OUTSIDE);
    due("moment(6)", x.moment(6), BallastSteps.STATE);
    // LOADS 104, -22, -22, -22, -22, -22, 6.
    tellShip(x, "s;D0p9o;W6s3o;P3c9e");
    int[] want = {104, 186, 246, 284, 300, 294, 294};
    for (int f = 0; f < 7; f++) due("moment(" + f + ")", x.moment(f), 10000 + want[f]);
    tellShip(x, "s;P6c1o");
    int[] below = {-1, -3, -6, -10, -15, -21, -21};
    for (int f = 0; f < 7; f++) due("moment(" + f + ")", x.moment(f), 10000 + below[f]);
  }

  private static void pump() {
    BallastSteps x = shipOf("s;P6c3o;P0c3e");
    due("out", x.pump(0), 0);
    due("in", x.pump(0), 2);
    due("out again", x.pump(0), 0);
    due("in again", x.pump(0), 2);
    due("an empty one in", x.pump(1), 2);
    due("of none", x.pump(2), BallastSteps.UNKNOWN);
    due("of none", x.pump(-1), BallastSteps.UNKNOWN);
    x.bound(0, 8);
    due("9 behind it is more than 8", x.pump(0), BallastSteps.STATE);
    due("its water stays", x.ofTank(0, 5), 2);
    x.bound(0, 9);
    due("9 is within 9", x.pump(0), 0);
    halfwayAlone();
  }

  /** HALFWAY and what is behind are bounded each for itself; what is now is not. */
  private static void halfwayAlone() {
    BallastSteps x = shipOf("s;P2c2o;P4c4o");
    due("TRIM", x.measure(0), 1002);
    x.bound(0, 2);
    due("4 behind", x.pump(0), BallastSteps.STATE);
    due("-2 behind", x.pump(1), 0);
    x.bound(0, 1);
    due("from unsafe to safe", x.pump(0), 0);
    due("2 behind", x.pump(0), BallastSteps.STATE);
    // From -6 to 6: HALFWAY is 0, so only what is behind counts.
    BallastSteps y = shipOf("s;P2c6o;D5c3e;D5c3e");
    y.bound(0, 6);
    due("to 6", y.pump(1), 2);
    due("to 18", y.pump(2), BallastSteps.STATE);
    // SAFE behind, not HALFWAY: TRIM goes from -27 to 0, by -13 and a half.
    BallastSteps z = shipOf("s;P0c9o");
    z.bound(0, 13);
    due("27 twice over is more than 26", z.pump(0), BallastSteps.STATE);
    z.bound(0, 14);
    due("27 twice over is within 28", z.pump(0), 0);
  }

  private static void plan() {
    BallastSteps x = new BallastSteps();
    due("plan(-2)", x.plan(-2), BallastSteps.OUTSIDE);
    due("plan(20)", x.plan(20), BallastSteps.OUTSIDE);
    due("plan(-1)", x.plan(-1), BallastSteps.STATE);
    due("plan(19)", x.plan(19), BallastSteps.STATE);
    tellShip(x, "s;P1c4o;P3c4e;P5c4o");
    duePlan(x, "two old ones", 0, 0, 2, 2);
    x.due(1);
    duePlan(x, "one due", 0, 0);
    x.due(2);
    duePlan(x, "an empty one due", 1);
    x.due(0);
    duePlan(x, "none due");
    due("plans: none due", x.plans(), 1);
    x.due(7);
    duePlan(x, "all due", 0, 0, 1, 2, 2);
    x.pump(1);
    duePlan(x, "one has NEW WATER", 0, 0, 2, 2);
    x.fail(2);
    due("a pump that failed", x.plan(-1), BallastSteps.NONE);
    due("a pump that failed", x.plan(0), BallastSteps.NONE);
    x.due(3);
    duePlan(x, "that pump is not needed", 0, 0);
    due("it is pumped", x.pump(0), 0);
    x.due(0);
    duePlan(x, "empty as it is now");
  }

  private static void plans() {
    BallastSteps x = new BallastSteps();
    due("plans without ship", x.plans(), BallastSteps.LOST);
    tellShip(x, "s;P1c1o;P2c1o;P3c1o;P4c1o;P5c1o;P3c2o");
    due("plans of six: 12! less 2 to the 6th", x.plans(), 7484400);
    due("states of six", x.states(), 729);
    duePlan(x, "six", 0, 0, 1, 1, 2, 2, 3, 3, 4, 4, 5, 5);
    x.fail(5);
    due("plans with a pump that failed", x.plans(), 0);
    tellShip(x, "s;P1c1e;P2c1o");
    x.due(3);
    due("0 at any place of 1 1", x.plans(), 3);
    tellShip(x, "s;P0c3o;P6c3o;P0c3e");
    x.bound(0, 5);
    due("nothing can be pumped", x.plan(-1), BallastSteps.NONE);
    due("no plans", x.plans(), 0);
    due("where it is", x.states(), 1);
    x.bound(0, 9);
    x.due(1);
    duePlan(x, "within 9", 0, 0);
  }

  /** Plans that go round by other tanks, or take more than two pumpings for each tank. */
  private static void longPlan() {
    BallastSteps x = shipOf("s;P4c2o;P4c1e;P2c1o");
    x.bound(0, 1);
    duePlan(x, "tank 2 only while tank 0 is out", 0, 2, 2, 0);
    due("one such plan", x.plans(), 1);
    // TRIM 0 now. Tank 0 alone can't be out (6), tank 2 alone can't be in (-4).
    BallastSteps y = shipOf("s;D0c1o;P5c3o;P1c2e;P4c3e");
    y.bound(0, 5);
    y.due(1);
    due("out is 6", y.ofTank(0, 7), 0);
    duePlan(y, "tank 2 lent", 2, 0, 0, 2);
    due("plans", y.plans(), 1);
    y.fail(2);
    duePlan(y, "tank 3 lent, that tank 1 can be lent", 3, 1, 0, 0, 1, 3);
    y.fail(1);
    due("none lent", y.plan(-1), BallastSteps.NONE);
    due("plans", y.plans(), 0);
    BallastSteps z = shipOf("s;P0c9o;P6c9o");
    z.bound(2, 188);
    due("BENDING 189 without one", z.plan(-1), BallastSteps.NONE);
    z.bound(2, 189);
    duePlan(z, "189 is within", 0, 0, 1, 1);
  }

  private static BallastSteps dayShip() {
    BallastSteps x = shipOf("s;P1p4o;W5c4e;D3s4o");
    fillNumbers(x, 1, 2, 0, 1, 0, 0, 2, 3, 5);
    return x;
  }

  private static void day() {
    BallastSteps x = dayShip();
    int[][] want = {
      {0, BallastSteps.NONE, 2, 992, 56, 1, 0, 1},
      {0, BallastSteps.NONE, 1, 1000, 48, 0, 0, 1},
      {1, BallastSteps.NONE, 2, 1010, 102, 0, 2, 1},
      {2, BallastSteps.NONE, 3, 1002, 20, 2, 2, 1},
      {1, BallastSteps.NONE, 2, 1010, 102, 0, 2, 1},
      {1, BallastSteps.NONE, 1, 1010, 70, 0, 2, 0}};
    for (int n = 0; n < want.length; n++) {
      int[] row = want[n];
      for (int w = 0; w < 5; w++) {
        if (w != 4) due("day of " + n + ", what " + w, x.day(1, 2, 0, n, w), row[w]);
      }
      for (int t = 0; t < 3; t++) due("day of " + n + ", tank " + t, x.day(1, 2, 0, n, 10 + t), row[5 + t]);
      for (int t = 3; t < 6; t++) due("no tank " + t, x.day(1, 2, 0, n, 10 + t), BallastSteps.NONE);
    }
    due("BENDING of tank 1 alone", x.day(1, 2, 0, 5, 4), 75);
    due("nothing is changed", x.ofTank(0, 5), 1);
    due("no such tank", x.day(1, 2, 0, 6, 1), 5);
    due("no such tank, what 0", x.day(1, 2, 0, 6, 0), -105);
    due("no such tank, what 15", x.day(1, 2, 0, 7, 15), -105);
    due("from i on", x.day(1, 2, 4, 2, 1), 1);
    x.fail(1);
    due("a pump that failed", x.day(1, 2, 0, 5, 1), 1);
    due("a pump that failed, from i on", x.day(1, 2, 1, 4, 4), -100);
    x.fail(1);
    x.bound(0, 9);
    due("TRIM 10 behind", x.day(1, 2, 0, 5, 1), 1);
    x.bound(0, 10);
    due("TRIM 10 within", x.day(1, 2, 0, 5, 1), BallastSteps.NONE);
  }

  private static void dayRefusals() {
    BallastSteps none = new BallastSteps();
    due("day without a sheet", none.day(0, 0, 0, 0, 0), NULL);
    none.sheet(0, 0, 2);
    due("day beyond", none.day(0, 0, 1, 2, 0), INDEX);
    none.put(0, 0, 6);
    due("day without ship", none.day(0, 0, 0, 2, 0), BallastSteps.STATE);
    due("refused: no fault", none.fault(), 0);
    BallastSteps x = dayShip();
    fillNumbers(x, 2, 0, 3, 6, -1);
    due("day(-1)", x.day(-1, 9, 0, 0, 0), BallastSteps.UNKNOWN);
    due("day(4)", x.day(4, 2, 0, 0, 0), BallastSteps.UNKNOWN);
    due("lane 3", x.day(1, 3, 0, 0, 0), BallastSteps.OUTSIDE);
    due("lane -1", x.day(1, -1, 0, 0, 0), BallastSteps.OUTSIDE);
    due("n -1", x.day(1, 1, 0, -1, 0), BallastSteps.OUTSIDE);
    due("n 31", x.day(1, 1, 0, 31, 0), BallastSteps.OUTSIDE);
    for (int what : new int[] {-1, 5, 9, 16, MAX, MIN}) {
      due("what " + what, x.day(3, 2, 0, 0, what), BallastSteps.OUTSIDE);
    }
    due("CAST", x.day(1, 1, 9, 9, 0), CAST);
    due("NULL", x.day(3, 1, 9, 9, 0), NULL);
    due("INDEX", x.day(1, 2, 0, 8, 0), INDEX);
    due("INDEX of none", x.day(1, 2, 8, 0, 0), INDEX);
    due("INDEX below 0", x.day(1, 2, -1, 1, 0), INDEX);
    due("INDEX far", x.day(1, 2, MAX, 30, 0), INDEX);
    due("none at the end", x.day(1, 2, 7, 0, 2), 2);
    due("cell 6 behind one that is wrong", x.day(2, 0, 0, 2, 1), BallastSteps.OUTSIDE);
    due("cell -1", x.day(2, 0, 2, 1, 1), BallastSteps.OUTSIDE);
    due("cell 3", x.day(2, 0, 0, 1, 1), 0);
    x.sheet(3, 1, 60);
    due("30 cells", x.day(3, 1, 0, 30, 10), 2);
    due("29 cells", x.day(3, 1, 31, 29, 10), 0);
    due("fault behind that", x.fault(), 0);
  }

  private static void states() {
    due("states without ship", new BallastSteps().states(), BallastSteps.STATE);
    BallastSteps x = shipOf("s;P1c4o;P3c4e;P5c4o");
    due("an empty one is none or NEW", x.states(), 18);
    x.pump(0);
    due("OLD is gone", x.states(), 12);
    x.fail(2);
    due("a pump that failed", x.states(), 4);
    x.fail(0);
    x.fail(1);
    due("all pumps failed", x.states(), 1);
    BallastSteps y = shipOf("s;D6c9o");
    y.bound(0, 27);
    due("out, but not in again", y.states(), 2);
    y.bound(0, 26);
    due("HALFWAY 27", y.states(), 1);
  }

  private static void worst() {
    BallastSteps x = new BallastSteps();
    due("worst(-1)", x.worst(-1), BallastSteps.OUTSIDE);
    due("worst(3)", x.worst(3), BallastSteps.OUTSIDE);
    due("worst(0)", x.worst(0), BallastSteps.STATE);
    tellShip(x, "s;P0p2o;P0p3o");
    due("TRIM now", x.worst(0), 15);
    due("HEEL now", x.worst(1), 5);
    due("BENDING now", x.worst(2), 105);
    tellShip(x, "s;P0p2o;P6s3o");
    due("TRIM behind one", x.worst(0), 9);
    due("HEEL behind one", x.worst(1), 3);
    due("BENDING behind one", x.worst(2), 63);
    x.bound(0, 4);
    due("no plan", x.worst(0), BallastSteps.NONE);
    due("no plan", x.worst(2), BallastSteps.NONE);
    x.due(0);
    due("the empty plan: now", x.worst(0), 3);
    due("the empty plan: now", x.worst(1), 1);
    // All ends otherwise than it is now, for an empty tank is due.
    tellShip(x, "s;P0p2o;P6s2e");
    x.due(2);
    due("TRIM -6 now, 0 behind", x.worst(0), 6);
    due("HEEL -2 now, 0 behind", x.worst(1), 2);
    due("BENDING 42 now, 18 behind", x.worst(2), 42);
    x.pump(0);
    due("TRIM 0 now, 6 behind", x.worst(0), 6);
  }

  private static void readings() {
    BallastSteps x = new BallastSteps();
    due("reading without ship", x.reading(501), BallastSteps.STATE);
    tellShip(x, "s;P1p4o;W5c4e");
    due("reading 501", x.reading(501), BallastSteps.OUTSIDE);
    due("reading -501", x.reading(-501), BallastSteps.OUTSIDE);
    for (int r = 0; r < 8; r++) due("reading", x.reading(r % 2 == 0 ? 500 : -500), r);
    due("a ninth", x.reading(0), BallastSteps.FULL);
    due("a ninth, outside", x.reading(501), BallastSteps.OUTSIDE);
    due("many", x.many(4), 8);
    x.back(3);
    due("numbered anew", x.reading(0), 5);
  }

  private static void back() {
    BallastSteps x = new BallastSteps();
    due("back(0) without ship", x.back(0), 0);
    due("back(1) without ship", x.back(1), BallastSteps.OUTSIDE);
    tellShip(x, "s;P1p4o");
    x.reading(-8);
    x.reading(-6);
    due("none agrees with both", x.masses(0), 0);
    due("back(-1)", x.back(-1), BallastSteps.OUTSIDE);
    due("back(3)", x.back(3), BallastSteps.OUTSIDE);
    due("back(0)", x.back(0), 2);
    due("back(1)", x.back(1), 1);
    due("the first is left", x.masses(0), 1 << 4);
    due("back(1)", x.back(1), 0);
    due("back(1)", x.back(1), BallastSteps.OUTSIDE);
  }

  private static void kinds() {
    BallastSteps x = new BallastSteps();
    due("kinds without ship", x.kinds(0), BallastSteps.UNKNOWN);
    tellShip(x, "s;P1p4o;W5c4e;D3s4o;W6s1o");
    for (int t = 0; t < 4; t++) due("no readings", x.kinds(t), 7);
    due("kinds(4)", x.kinds(4), BallastSteps.UNKNOWN);
    due("kinds(-1)", x.kinds(-1), BallastSteps.UNKNOWN);
    x.reading(-2);
    due("TRIM now", x.measure(0), 998);
    due("as it is", x.kinds(0), 1);
    due("an empty one may be any", x.kinds(1), 7);
    due("amid may be any", x.kinds(2), 7);
    due("1 and 1, twice 1", x.kinds(3), 6);
    x.back(1);
    x.reading(-4);
    due("WIDE", x.kinds(0), 2);
    due("an empty one can't be", x.kinds(1), 0);
    due("amid can't be", x.kinds(2), 0);
    x.pump(0);
    due("held against TRIM as it is", x.kinds(0), 0);
    x.back(1);
    x.reading(6);
    due("held against TRIM as it is", x.kinds(0), 7);
  }

  private static void masses() {
    BallastSteps x = new BallastSteps();
    due("masses without ship", x.masses(0), BallastSteps.UNKNOWN);
    tellShip(x, "s;P1p4o;W5c4e;D3s4o;D6s1o");
    for (int t = 0; t < 4; t++) due("no readings", x.masses(t), 1022);
    due("masses(4)", x.masses(4), BallastSteps.UNKNOWN);
    due("masses(-1)", x.masses(-1), BallastSteps.UNKNOWN);
    x.reading(-2);
    due("as it is", x.masses(0), 1 << 4);
    due("an empty one", x.masses(1), 1022);
    due("amid", x.masses(2), 1022);
    due("as it is", x.masses(3), 2);
    x.back(1);
    x.reading(46);
    due("DOUBLE of 9", x.masses(3), 1 << 9);
    due("46 by tank 0", x.masses(0), 0);
    x.pump(1);
    x.back(1);
    x.reading(0);
    due("TRIM now", x.measure(0), 1008);
    due("WIDE can't be 0", x.masses(1), 0);
    x.back(1);
    x.reading(2);
    due("WIDE of 1", x.masses(1), 2);
    x.mass(0, 5);
    due("held against MASS as it is", x.masses(1), 4);
  }

  private static void odds() {
    BallastSteps x = new BallastSteps();
    due("odds(2)", x.odds(2), BallastSteps.LOST);
    due("odds(0)", x.odds(0), BallastSteps.LOST);
    tellShip(x, "s;P0c1o;P6c2o;P3c3e");
    due("odds(-1)", x.odds(-1), BallastSteps.LOST);
    due("odds(2)", x.odds(2), BallastSteps.LOST);
    due("all upper", x.odds(0), 1);
    due("all lower", x.odds(1), 1);
    x.bound(0, 5);
    due("TRIM 0, -3, 3 upper", x.odds(0), 3);
    due("TRIM 0, -3, 3 lower", x.odds(1), 4);
    x.bound(0, 2);
    due("TRIM 0 upper", x.odds(0), 1);
    due("TRIM 0 lower", x.odds(1), 4);
    x.bound(2, 0);
    due("none at all upper", x.odds(0), 1);
    due("none at all lower", x.odds(1), 8);
    x.fail(0);
    due("pumps don't count", x.odds(1), 8);
  }

  private static void sheet() {
    BallastSteps x = new BallastSteps();
    due("sheet(-1)", x.sheet(-1, 3, 61), BallastSteps.UNKNOWN);
    due("sheet(4)", x.sheet(4, 0, 0), BallastSteps.UNKNOWN);
    due("lane 3", x.sheet(0, 3, -1), BallastSteps.OUTSIDE);
    due("lane -1", x.sheet(0, -1, 0), BallastSteps.OUTSIDE);
    due("61", x.sheet(0, 0, 61), BallastSteps.OUTSIDE);
    due("no fault", x.fault(), 0);
    due("-1", x.sheet(0, 0, -1), SIZE);
    due("its fault", x.fault(), 4);
    due("least", x.sheet(0, 0, MIN), SIZE);
    due("still nothing", x.lose(0), 0);
    due("60", x.sheet(0, 0, 60), 1);
    due("no fault", x.fault(), 0);
    x.put(0, 59, 7);
    due("the last", x.cell(0, 59, 0), 7);
    due("0", x.sheet(0, 1, 0), 1);
    due("none there", x.cell(0, 0, 1), BallastSteps.LOST);
    due("its fault", x.fault(), 3);
    due("60 anew", x.sheet(0, 2, 60), 1);
    due("0 at first", x.cell(0, 59, 2), 0);
    x.put(0, 0, 9);
    due("SIZE changes nothing", x.sheet(0, 0, -1), SIZE);
    due("what it had", x.cell(0, 0, 2), 9);
  }

  private static void lose() {
    BallastSteps x = new BallastSteps();
    x.sheet(3, 0, 0);
    due("lose", x.lose(3), 1);
    due("lose again", x.lose(3), 0);
    due("put to nothing", x.put(3, 0, 0), NULL);
    due("lose(4)", x.lose(4), BallastSteps.UNKNOWN);
    due("lose(-1)", x.lose(-1), BallastSteps.UNKNOWN);
    due("lose names no fault", x.fault(), 1);
  }

  private static void put() {
    BallastSteps x = new BallastSteps();
    due("put(-1)", x.put(-1, 0, 0), BallastSteps.UNKNOWN);
    due("put(4)", x.put(4, 0, 0), BallastSteps.UNKNOWN);
    due("put to nothing", x.put(0, -1, 0), NULL);
    for (int lane = 0; lane < 3; lane++) x.sheet(lane, lane, 2);
    due("put(.., -1)", x.put(0, -1, 0), INDEX);
    due("its fault", x.fault(), 3);
    due("put(.., 2)", x.put(0, 2, 0), INDEX);
    due("put(.., MAX)", x.put(0, MAX, 0), INDEX);
    long[][] want = {{-128, -1, 0}, {0x80, -1, -32768}, {0x80, 0xffff, 0x8000}};
    int[] told = {0x80, 0xffff, 0x8000};
    for (int lane = 0; lane < 3; lane++) {
      for (int v = 0; v < 3; v++) {
        due("put", x.put(lane, 1, told[v]), 1);
        due(told[v] + " cut to lane " + lane, x.cell(lane, 1, lane), want[lane][v]);
      }
    }
    x.put(2, 0, MIN);
    due("the least int", x.cell(2, 0, 2), MIN);
    due("no fault", x.fault(), 0);
  }

  private static void cell() {
    BallastSteps x = new BallastSteps();
    int[][] calls = {{-1, 0, 0, 0}, {4, 0, 0, 0}, {0, 0, 3, 0}, {0, 0, -1, 0}, {0, 0, 0, 1},
      {1, 0, 0, 2}, {1, 9, 2, 2}, {1, -1, 1, 3}, {1, 3, 1, 3}, {1, MIN, 1, 3}, {3, 9, 1, 1}};
    x.sheet(1, 1, 3);
    for (int[] c : calls) {
      due("cell", x.cell(c[0], c[1], c[2]), BallastSteps.LOST);
      due("fault of cell(" + c[0] + ", " + c[1] + ", " + c[2] + ")", x.fault(), c[3]);
    }
    x.put(1, 2, -5);
    due("cell", x.cell(1, 2, 1), -5);
    due("its fault", x.fault(), 0);
  }

  private static void copy() {
    BallastSteps x = new BallastSteps();
    due("copy(-1)", x.copy(-1, 0, 0, 0, 0), BallastSteps.UNKNOWN);
    due("copy to 4", x.copy(0, 0, 4, 0, 0), BallastSteps.UNKNOWN);
    due("copy of nothing", x.copy(0, -1, 1, 0, 0), NULL);
    fillNumbers(x, 0, 0, 1, 2, 3, 4, 5);
    due("copy to nothing", x.copy(0, -1, 1, 0, 0), NULL);
    x.sheet(1, 1, 5);
    due("copy to another lane", x.copy(0, -1, 1, 0, 0), CAST);
    x.sheet(1, 0, 4);
    int[][] beyond = {{-1, 0, 1}, {0, -1, 1}, {0, 0, -1}, {0, 0, 5}, {1, 0, 5}, {0, 1, 4}, {6, 0, 0},
      {0, 5, 0}, {MAX, MAX, MAX}, {1, 1, MAX}, {MIN, 0, 0}, {5, 4, MIN}};
    for (int[] b : beyond) {
      due("copy beyond", x.copy(0, b[0], 1, b[1], b[2]), INDEX);
      due("its fault", x.fault(), 3);
    }
    due("none at the ends", x.copy(0, 5, 1, 4, 0), 0);
    due("its fault", x.fault(), 0);
    due("copy", x.copy(0, 2, 1, 1, 3), 3);
    dueCells(x, 1, 0, 3, 4, 5);
    due("copy on itself, on", x.copy(0, 0, 0, 1, 4), 4);
    dueCells(x, 0, 1, 1, 2, 3, 4);
    due("copy on itself, back", x.copy(0, 2, 0, 0, 3), 3);
    dueCells(x, 0, 2, 3, 4, 3, 4);
  }

  private static void dueCells(BallastSteps x, int k, int... want) {
    for (int i = 0; i < want.length; i++) due("cell " + i + " of " + k, x.cell(k, i, 0), want[i]);
  }

  private static void tell() {
    BallastSteps x = new BallastSteps();
    due("tell without ship", x.tell(0), BallastSteps.UNKNOWN);
    tellShip(x, "s;P1p4o;W5c5e;D3s6o");
    due("PLAIN", x.tell(0), 4);
    due("its trace", x.trace(), 1);
    due("WIDE", x.tell(1), 105);
    due("its trace", x.trace(), (1 * 31 + 2) * 31 + 1);
    tellShip(x, "s;P1p4o;W5c5e;D3s6o");
    due("the trace stays", x.trace(), 1024);
    due("DOUBLE", x.tell(2), 112);
    due("its trace", x.trace(), (((1024 * 31 + 3) * 31 + 2) * 31 + 1) * 31 + 1);
    due("tell(3)", x.tell(3), BallastSteps.UNKNOWN);
    due("tell(-1)", x.tell(-1), BallastSteps.UNKNOWN);
    due("the trace stays", x.trace(), (((1024 * 31 + 3) * 31 + 2) * 31 + 1) * 31 + 1);
    int trace = x.trace();
    for (int i = 0; i < 20; i++) {
      x.tell(0);
      trace = 31 * trace + 1;
    }
    due("a trace that wraps", x.trace(), trace);
  }

  private static void sound() {
    BallastSteps x = new BallastSteps();
    due("sound without ship", x.sound(0), BallastSteps.UNKNOWN);
    tellShip(x, "s;P1p4o;W5c5e;D3s6o");
    due("PLAIN", x.sound(0), 1);
    due("its trace", x.trace(), 4);
    due("WIDE", x.sound(1), 5);
    due("its trace", x.trace(), 4 * 31 + 4);
    due("DOUBLE", x.sound(2), 23);
    due("its trace", x.trace(), ((4 * 31 + 4) * 31 + 5) * 31 + 4);
    due("sound(3)", x.sound(3), BallastSteps.UNKNOWN);
    due("sound(-1)", x.sound(-1), BallastSteps.UNKNOWN);
  }

  private static void as() {
    BallastSteps x = new BallastSteps();
    due("as without ship", x.as(0, 0), BallastSteps.UNKNOWN);
    tellShip(x, "s;P1p4o;W5c5e;D3s6o");
    int[][] want = {{1, CAST, CAST}, {1, 1, CAST}, {1, 1, 1}};
    for (int t = 0; t < 3; t++) {
      for (int kind = 0; kind < 3; kind++) {
        due("as(" + t + ", " + kind + ")", x.as(t, kind), want[t][kind]);
        due("its fault", x.fault(), want[t][kind] == CAST ? 2 : 0);
      }
    }
    x.as(0, 2);
    due("as kind -1", x.as(0, -1), BallastSteps.OUTSIDE);
    due("refused: no fault", x.fault(), 0);
    due("as kind 3", x.as(2, 3), BallastSteps.OUTSIDE);
    due("as of tank 3", x.as(3, 3), BallastSteps.UNKNOWN);
    due("as of tank -1", x.as(-1, 0), BallastSteps.UNKNOWN);
  }

  /** The calls that name faults clear it when they come to none, or are refused; others don't. */
  private static void fault() {
    BallastSteps x = shipOf("s;P1p4o");
    for (int call = 0; call < 14; call++) {
      due("a fault", x.sheet(1, 0, -1), SIZE);
      switch (call) {
        case 0: x.ship(0, 0, 0, 7); break;
        case 1: x.ship(-1, 0, 0, 7); break;
        case 2: x.day(0, 0, 7, 0, 0); break;
        case 3: x.day(0, 0, 0, 31, 0); break;
        case 4: x.sheet(1, 0, 5); break;
        case 5: x.sheet(1, 0, 61); break;
        case 6: x.put(1, 0, 0); break;
        case 7: x.put(4, 0, 0); break;
        case 8: x.cell(1, 0, 0); break;
        case 9: x.cell(1, 0, 3); break;
        case 10: x.copy(1, 0, 1, 0, 5); break;
        case 11: x.copy(1, 0, 4, 0, 5); break;
        case 12: x.as(0, 0); break;
        default: x.as(1, 0); break;
      }
      due("call " + call + " clears it", x.fault(), 0);
    }
    x.put(0, 7, 0);
    x.mass(0, 0);
    x.ofTank(9, 9);
    x.lose(0);
    x.lose(9);
    x.tell(0);
    x.reading(0);
    x.many(9);
    x.pump(0);
    x.trace();
    due("asked twice", x.fault(), 3);
    due("asked twice", x.fault(), 3);
  }

  private static void many() {
    BallastSteps x = shipOf("s;P1p4o;W5c4e;D3s4o;P2c2o");
    dueMany(x, "at first", 4, 3, 0, 3, 0);
    x.pump(0);
    dueMany(x, "one out", 4, 2, 0, 3, 0);
    x.pump(0);
    x.pump(1);
    x.reading(1);
    x.reading(1);
    x.due(1);
    dueMany(x, "two in", 4, 4, 2, 1, 2);
    tellShip(x, "s;P1p4o;W5c4e;D3s4o;P2c2o;P2c2e;P2c2e");
    x.pump(5);
    dueMany(x, "six", 6, 4, 1, 3, 0);
    due("many(-1)", x.many(-1), BallastSteps.OUTSIDE);
    due("many(5)", x.many(5), BallastSteps.OUTSIDE);
  }

  /** What a plan tells follows each change at once. */
  private static void staleAnswers() {
    BallastSteps x = shipOf("s;P1c4o;P5c4o");
    duePlan(x, "at first", 0, 0, 1, 1);
    x.bound(0, 7);
    due("bound anew", x.plan(-1), BallastSteps.NONE);
    x.mass(0, 1);
    duePlan(x, "mass anew", 1, 0, 0, 1);
    x.bound(0, 5);
    due("bound anew", x.plan(-1), BallastSteps.NONE);
    x.bound(0, 8);
    x.due(1);
    duePlan(x, "due anew", 0, 0);
    x.pump(0);
    duePlan(x, "pumped", 0);
    due("states", x.states(), 6);
    x.fail(0);
    due("failed", x.plan(-1), BallastSteps.NONE);
    tellShip(x, "s;P1c4o");
    duePlan(x, "a text anew", 0, 0);
    x.put(0, 1, 0);
    x.ship(0, 0, 0, 7);
    duePlan(x, "a wrong text", 0, 0);
  }
}
