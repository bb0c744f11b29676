import java.util.ArrayList;
import java.util.Arrays;
import java.util.HashSet;
import java.util.List;
import java.util.Random;
import java.util.Set;

/**
 * Plans, states and odds of small ships, drawn by a fixed seed, as the document's words define them:
 * all rows of tanks are tried, shorter ones first, in their order as rows. Nothing is searched by
 * waters that were met before, and halfway a tank has half its weight, not all others twice theirs.
 */
public final class RowsTest {
  private static final int SHIPS = 4000;
  private static final int LONGEST = 8;
  private static final int MOST_ROWS = 200_000;
  private static int wrong = 0;
  private static int plansMet = 0;

  private final Random random;
  private final BallastSteps x = new BallastSteps();
  private final String text;
  private final int n;
  private final int[] kind, frame, side, mass, now;
  private final boolean[] works;
  private final int[] bounds = {999, 999, 999};
  private int due = 0;
  private final List<int[]> found = new ArrayList<>();
  private final Set<String> met = new HashSet<>();
  private int tried;

  private RowsTest(int run) {
    random = new Random(104_729L * run + 3);
    n = 1 + random.nextInt(4);
    kind = new int[n];
    frame = new int[n];
    side = new int[n];
    mass = new int[n];
    now = new int[n];
    works = new boolean[n];
    Arrays.fill(works, true);
    StringBuilder told = new StringBuilder("s");
    for (int t = 0; t < n; t++) {
      kind[t] = random.nextInt(3);
      frame[t] = random.nextInt(7);
      side[t] = random.nextInt(3);
      mass[t] = 1 + random.nextInt(9);
      now[t] = random.nextInt(2);
      due |= now[t] << t;
      told.append(';').append("PWD".charAt(kind[t])).append(frame[t]).append("pcs".charAt(side[t]));
      told.append(mass[t]).append("eo".charAt(now[t]));
    }
    text = told.toString();
  }

  private void check(String what, long got, long want) {
    if (got == want) return;
    wrong++;
    System.out.println(text + " bounds " + Arrays.toString(bounds) + " due " + due + " now "
        + Arrays.toString(now) + ": " + what + " answered " + got + ", due is " + want);
  }

  // ---- what the document defines

  private double weight(int t) {
    return kind[t] == 0 ? mass[t] : kind[t] == 1 ? mass[t] + 1 : 2 * mass[t];
  }

  private double[] weights(int[] waters) {
    double[] all = new double[n];
    for (int t = 0; t < n; t++) all[t] = waters[t] == 0 ? 0 : weight(t);
    return all;
  }

  /** TRIM and HEEL without sign, BENDING. */
  private double[] measures(double[] weights) {
    double trim = 0, heel = 0, bending = 0;
    for (int t = 0; t < n; t++) {
      trim += weights[t] * (frame[t] - 3);
      heel += weights[t] * (side[t] - 1);
    }
    for (int f = 0; f < 7; f++) {
      double moment = 0;
      // A tank adds 7 times its weight to the shears from its frame on, and takes 1 from each frame's load.
      for (int t = 0; t < n; t++) {
        moment += weights[t] * (7 * Math.max(0, f - frame[t] + 1) - (f + 1) * (f + 2) / 2);
      }
      bending = Math.max(bending, Math.abs(moment));
    }
    return new double[] {Math.abs(trim), Math.abs(heel), bending};
  }

  private boolean isSafe(double[] weights) {
    double[] all = measures(weights);
    return all[0] <= bounds[0] && all[1] <= bounds[1] && all[2] <= bounds[2];
  }

  private boolean canBe(int[] waters, int t) {
    double[] weights = weights(waters);
    boolean full = waters[t] != 0;
    weights[t] = weight(t) / 2;
    if (!works[t] || !isSafe(weights)) return false;
    weights[t] = full ? 0 : weight(t);
    return isSafe(weights);
  }

  private static int[] behind(int[] waters, int t) {
    int[] then = waters.clone();
    then[t] = waters[t] == 0 ? 2 : 0;
    return then;
  }

  private boolean isEnd(int[] waters) {
    for (int t = 0; t < n; t++) {
      if ((due >> t & 1) == 1 ? waters[t] != 2 : (waters[t] != 0) != (now[t] != 0)) return false;
    }
    return true;
  }

  private void tryRows(int[] waters, int[] row, int at) {
    tried++;
    if (tried > MOST_ROWS) return;
    if (at == row.length) {
      if (isEnd(waters)) found.add(row.clone());
      return;
    }
    for (int t = 0; t < n; t++) {
      if (!canBe(waters, t)) continue;
      row[at] = t;
      tryRows(behind(waters, t), row, at + 1);
    }
  }

  private void meet(int[] waters) {
    if (!met.add(Arrays.toString(waters))) return;
    for (int t = 0; t < n; t++) {
      if (canBe(waters, t)) meet(behind(waters, t));
    }
  }

  // ---- a ship, brought somewhere and asked

  private void tellShip() {
    x.sheet(0, 1, text.length());
    for (int i = 0; i < text.length(); i++) x.put(0, i, text.charAt(i));
    check("ship", x.ship(0, 1, 0, text.length()), n);
  }

  private void pumpSome() {
    for (int left = random.nextInt(4); left > 0; left--) {
      int t = random.nextInt(n);
      boolean can = canBe(now, t);
      check("can be pumped", x.ofTank(t, 7), can ? 1 : 0);
      if (can) now[t] = behind(now, t)[t];
      check("pump", x.pump(t), can ? now[t] : BallastSteps.STATE);
    }
  }

  /** Bounds near what is now, on both sides of it. */
  private void boundAll() {
    double[] all = measures(weights(now));
    int[] room = {30, 20, 150};
    for (int k = 0; k < 3; k++) {
      int v = (int) all[k] + random.nextInt(room[k]) - room[k] / 10;
      check("bound", x.bound(k, Math.max(0, Math.min(999, v))), bounds[k]);
      bounds[k] = Math.max(0, Math.min(999, v));
    }
    if (random.nextInt(2) == 0) {
      int set = random.nextInt(1 << n);
      check("due", x.due(set), due);
      due = set;
    }
    if (random.nextInt(6) == 0) {
      int t = random.nextInt(n);
      works[t] = false;
      check("fail", x.fail(t), 0);
    }
  }

  private void askStatesAndOdds() {
    meet(now);
    check("states", x.states(), met.size());
    int safe = 0;
    for (int full = 0; full < 1 << n; full++) {
      double[] weights = new double[n];
      for (int t = 0; t < n; t++) weights[t] = (full >> t & 1) * weight(t);
      if (isSafe(weights)) safe++;
    }
    check("odds as a share", x.odds(0) << n, safe * x.odds(1));
    boolean least = x.odds(1) == 1 || x.odds(0) % 2 != 0;
    check("odds in least terms", least ? 1 : 0, 1);
  }

  private void askPlan() {
    int length = -1;
    while (found.isEmpty() && length < LONGEST) {
      length++;
      tried = 0;
      tryRows(now, new int[length], 0);
      if (tried > MOST_ROWS) return;
    }
    if (found.isEmpty()) {
      check("a plan that is too short", x.plan(-1) > LONGEST || x.plan(-1) == BallastSteps.NONE ? 1 : 0, 1);
      return;
    }
    plansMet++;
    int[] first = found.get(0);
    check("plan(-1)", x.plan(-1), length);
    for (int k = 0; k < 20; k++) check("plan " + k, x.plan(k), k < length ? first[k] : BallastSteps.NONE);
    check("plans", x.plans(), found.size());
    askWorst(first);
  }

  private void askWorst(int[] row) {
    int[] waters = now.clone();
    double[] worst = measures(weights(now));
    for (int t : row) {
      waters = behind(waters, t);
      double[] all = measures(weights(waters));
      for (int w = 0; w < 3; w++) worst[w] = Math.max(worst[w], all[w]);
    }
    for (int w = 0; w < 3; w++) check("worst " + w, x.worst(w), (long) worst[w]);
    x.sheet(1, 0, row.length);
    for (int k = 0; k < row.length; k++) x.put(1, k, row[k]);
    check("the plan as a day", x.day(1, 0, 0, row.length, 1), BallastSteps.NONE);
    for (int t = 0; t < n; t++) check("water behind it", x.day(1, 0, 0, row.length, 10 + t), waters[t]);
  }

  private void run() {
    tellShip();
    pumpSome();
    boundAll();
    askStatesAndOdds();
    askPlan();
  }

  public static void main(String[] args) {
    for (int run = 0; run < SHIPS && wrong < 20; run++) new RowsTest(run).run();
    if (wrong == 0 && plansMet < SHIPS / 3) {
      wrong++;
      System.out.println("too few plans were met: " + plansMet);
    }
    if (wrong != 0) System.exit(1);
    System.out.println(SHIPS + " small ships agree with all rows, " + plansMet + " plans");
  }
}
