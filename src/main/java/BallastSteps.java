import java.util.Arrays;

/**
 * A ship's ballast changed, tank by tank, such that no bound is broken on the way.
 * What each call answers stands in DOC.md; words in capitals there are the names here.
 */
public final class BallastSteps {
  public static final int UNKNOWN = -1, OUTSIDE = -2, STATE = -3, FULL = -4, NONE = -9;
  public static final long LOST = Long.MIN_VALUE;

  private static final int NULL = 1, CAST = 2, INDEX = 3, SIZE = 4;
  private static final int PLAIN = 0, WIDE = 1, DOUBLE = 2;
  private static final int EMPTY = 0, OLD = 1, NEW = 2;
  private static final int NOTHING = -1;

  private static final int SHEETS = 4;
  private static final int LANES = 3;
  private static final int MOST_CELLS = 60;
  private static final int MOST_TANKS = 6;
  private static final int FRAMES = 7;
  private static final int BOUNDS = 3;
  private static final int MOST_BOUND = 999;
  private static final int MOST_MASS = 9;
  private static final int MOST_READINGS = 8;
  private static final int FARTHEST_READING = 500;
  private static final int MOST_OF_DAY = 30;
  private static final int LAST_OF_PLAN = 19;

  private static final int CODES_OF_TANK = 6;
  private static final int MOST_CODES = 1 + MOST_TANKS * CODES_OF_TANK;
  private static final int ALL_WATERS = 729;
  private static final int[] POWERS_OF_3 = {1, 3, 9, 27, 81, 243};

  private final Row[] rows = new Row[SHEETS];
  private final Ship vessel = new Ship();
  private final Search search = new Search();
  private final int[] readings = new int[MOST_READINGS];
  private int readingCount = 0;
  private int traced = 0;
  private int latestFault = 0;

  public BallastSteps() {
    for (int k = 0; k < SHEETS; k++) {
      rows[k] = new Row();
    }
  }

  // ---- 1 the ship

  public int ship(int sheet, int lane, int i, int n) {
    latestFault = 0;
    if (!isSheet(sheet)) return UNKNOWN;
    if (!isLane(lane)) return OUTSIDE;
    Row row = rows[sheet];
    int found = row.faultAs(lane);
    if (found == 0 && n < 0) found = SIZE;
    if (found == 0 && !row.hasCells(i, n)) found = INDEX;
    if (found != 0) return faulted(found);
    int wrong = firstFault(row, i, n);
    if (wrong != NONE) return -100 - wrong;
    vessel.build(row, i, n);
    readingCount = 0;
    search.forget();
    return vessel.count;
  }

  public int ofTank(int t, int what) {
    if (!isTank(t)) return UNKNOWN;
    Tank tank = vessel.tanks[t];
    switch (what) {
      case 0: return tank.kind;
      case 1: return tank.frame;
      case 2: return tank.side;
      case 3: return tank.mass;
      case 4: return tank.weight();
      case 5: return waterIn(vessel.waters, t);
      case 6: return oneIf(holds(vessel.working, t));
      case 7: return oneIf(vessel.canPump(vessel.waters, t));
      case 8: return oneIf(holds(vessel.dueSet, t));
      default: return OUTSIDE;
    }
  }

  public int mass(int t, int v) {
    if (!isTank(t)) return UNKNOWN;
    if (v < 1 || v > MOST_MASS) return OUTSIDE;
    int was = vessel.tanks[t].mass;
    vessel.tanks[t].mass = v;
    search.forget();
    return was;
  }

  public int bound(int k, int v) {
    if (k < 0 || k >= BOUNDS || v < 0 || v > MOST_BOUND) return OUTSIDE;
    if (hasNoShip()) return STATE;
    int was = vessel.bounds[k];
    vessel.bounds[k] = v;
    search.forget();
    return was;
  }

  public int due(int set) {
    if (hasNoShip()) return STATE;
    if (set < 0 || set >= 1 << vessel.count) return OUTSIDE;
    int was = vessel.dueSet;
    vessel.dueSet = set;
    search.forget();
    return was;
  }

  public int fail(int t) {
    if (!isTank(t)) return UNKNOWN;
    vessel.working ^= 1 << t;
    search.forget();
    return oneIf(holds(vessel.working, t));
  }

  // ---- 2 pumping, plans

  public int measure(int what) {
    if (what < 0 || what > 3) return OUTSIDE;
    if (hasNoShip()) return STATE;
    Load load = vessel.loadOf(vessel.fullSet(vessel.waters));
    switch (what) {
      case 0: return 1000 + load.trim;
      case 1: return 1000 + load.heel;
      case 2: return load.bending();
      default: return oneIf(load.isWithin(vessel.bounds, 1));
    }
  }

  public int moment(int f) {
    if (f < 0 || f >= FRAMES) return OUTSIDE;
    if (hasNoShip()) return STATE;
    return 10000 + vessel.loadOf(vessel.fullSet(vessel.waters)).momentOf(f);
  }

  public int pump(int t) {
    if (!isTank(t)) return UNKNOWN;
    if (!vessel.canPump(vessel.waters, t)) return STATE;
    vessel.waters = pumped(vessel.waters, t);
    search.forget();
    return waterIn(vessel.waters, t);
  }

  public int plan(int k) {
    if (k < -1 || k > LAST_OF_PLAN) return OUTSIDE;
    if (hasNoShip()) return STATE;
    search.refresh(vessel);
    if (k == -1) return search.planLength();
    return search.planTank(k);
  }

  public long plans() {
    if (hasNoShip()) return LOST;
    search.refresh(vessel);
    return search.shortestPlans(vessel);
  }

  public int day(int sheet, int lane, int i, int n, int what) {
    latestFault = 0;
    if (!isSheet(sheet)) return UNKNOWN;
    if (!isLane(lane) || n < 0 || n > MOST_OF_DAY || !isAskedOfDay(what)) return OUTSIDE;
    Row row = rows[sheet];
    int found = row.faultAs(lane);
    if (found == 0 && !row.hasCells(i, n)) found = INDEX;
    if (found != 0) return faulted(found);
    if (hasNoShip()) return STATE;
    if (!areTankNumbers(row, i, n)) return OUTSIDE;
    int wrong = firstWrong(row, i, n);
    if (what == 1) return wrong;
    if (wrong != NONE) return -100 - wrong;
    return ofWaters(watersBehind(row, i, n), what);
  }

  // ---- 3 states

  public int states() {
    if (hasNoShip()) return STATE;
    search.refresh(vessel);
    return search.reached;
  }

  public int worst(int what) {
    if (what < 0 || what >= BOUNDS) return OUTSIDE;
    if (hasNoShip()) return STATE;
    search.refresh(vessel);
    return search.worstOfPlan(vessel, what);
  }

  // ---- 4 the trim

  public int reading(int v) {
    if (hasNoShip()) return STATE;
    if (v < -FARTHEST_READING || v > FARTHEST_READING) return OUTSIDE;
    if (readingCount >= MOST_READINGS) return FULL;
    readings[readingCount] = v;
    readingCount++;
    return readingCount - 1;
  }

  public int back(int n) {
    if (n < 0 || n > readingCount) return OUTSIDE;
    readingCount -= n;
    return readingCount;
  }

  public int kinds(int t) {
    if (!isTank(t)) return UNKNOWN;
    int set = 0;
    for (int kind = PLAIN; kind <= DOUBLE; kind++) {
      if (readingsHoldWith(t, weightOf(kind, vessel.tanks[t].mass))) set |= 1 << kind;
    }
    return set;
  }

  public int masses(int t) {
    if (!isTank(t)) return UNKNOWN;
    int set = 0;
    for (int mass = 1; mass <= MOST_MASS; mass++) {
      if (readingsHoldWith(t, weightOf(vessel.tanks[t].kind, mass))) set |= 1 << mass;
    }
    return set;
  }

  public long odds(int which) {
    if (which < 0 || which > 1 || hasNoShip()) return LOST;
    int upper = vessel.safeLoads();
    int lower = 1 << vessel.count;
    // The lower number is a power of 2, so halving both is all that can lessen the terms.
    while (lower > 1 && upper % 2 == 0) {
      upper /= 2;
      lower /= 2;
    }
    return which == 0 ? upper : lower;
  }

  // ---- 5 sheets, parts

  public int sheet(int k, int lane, int n) {
    latestFault = 0;
    if (!isSheet(k)) return UNKNOWN;
    if (!isLane(lane) || n > MOST_CELLS) return OUTSIDE;
    if (n < 0) return faulted(SIZE);
    rows[k].renew(lane, n);
    return 1;
  }

  public int lose(int k) {
    if (!isSheet(k)) return UNKNOWN;
    if (rows[k].isNothing()) return 0;
    rows[k].drop();
    return 1;
  }

  public int put(int k, int i, int v) {
    latestFault = 0;
    if (!isSheet(k)) return UNKNOWN;
    if (rows[k].isNothing()) return faulted(NULL);
    if (!rows[k].hasCells(i, 1)) return faulted(INDEX);
    rows[k].write(i, v);
    return 1;
  }

  public long cell(int k, int i, int lane) {
    latestFault = 0;
    if (!isSheet(k) || !isLane(lane)) return LOST;
    latestFault = rows[k].faultAs(lane);
    if (latestFault == 0 && !rows[k].hasCells(i, 1)) latestFault = INDEX;
    if (latestFault != 0) return LOST;
    return rows[k].cells[i];
  }

  public int copy(int k, int i, int other, int j, int n) {
    latestFault = 0;
    if (!isSheet(k) || !isSheet(other)) return UNKNOWN;
    Row from = rows[k];
    Row to = rows[other];
    if (from.isNothing() || to.isNothing()) return faulted(NULL);
    if (from.lane != to.lane) return faulted(CAST);
    if (!from.hasCells(i, n) || !to.hasCells(j, n)) return faulted(INDEX);
    System.arraycopy(from.cells, i, to.cells, j, n);
    return n;
  }

  public int tell(int t) {
    if (!isTank(t)) return UNKNOWN;
    Tank tank = vessel.tanks[t];
    if (tank.kind == WIDE) return wideTelling(tank.mass);
    if (tank.kind == DOUBLE) return doubleTelling(tank.mass);
    return plainTelling(tank.mass);
  }

  public int sound(int t) {
    if (!isTank(t)) return UNKNOWN;
    Tank tank = vessel.tanks[t];
    return tank.kind == DOUBLE ? soundingOfDouble(tank) : lentSounding(tank);
  }

  public int as(int t, int kind) {
    latestFault = 0;
    if (!isTank(t)) return UNKNOWN;
    if (kind < PLAIN || kind > DOUBLE) return OUTSIDE;
    // Each kind is also one of all kinds with a lower number.
    if (vessel.tanks[t].kind < kind) return faulted(CAST);
    return 1;
  }

  public int trace() {
    return traced;
  }

  public int fault() {
    return latestFault;
  }

  public int many(int what) {
    switch (what) {
      case 0: return vessel.count;
      case 1: return Integer.bitCount(vessel.fullSet(vessel.waters));
      case 2: return newWaters(vessel.waters);
      case 3: return Integer.bitCount(vessel.dueSet);
      case 4: return readingCount;
      default: return OUTSIDE;
    }
  }

  // ---- what is asked ahead of an answer

  private static boolean isSheet(int k) {
    return k >= 0 && k < SHEETS;
  }

  private static boolean isLane(int lane) {
    return lane >= 0 && lane < LANES;
  }

  private static boolean isAskedOfDay(int what) {
    return what >= 0 && what <= 4 || what >= 10 && what < 10 + MOST_TANKS;
  }

  private boolean isTank(int t) {
    return t >= 0 && t < vessel.count;
  }

  private boolean hasNoShip() {
    return vessel.count == 0;
  }

  private int faulted(int found) {
    latestFault = found;
    return -10 - found;
  }

  private static int oneIf(boolean so) {
    return so ? 1 : 0;
  }

  // ---- the text of a ship

  /** The FIRST FAULT of a text of n codes from i on; NONE: it can be taken. */
  private static int firstFault(Row row, int i, int n) {
    for (int place = 0; place < n; place++) {
      if (!goesOn(place, row.cells[i + place])) return place;
    }
    return n > 1 && n % CODES_OF_TANK == 1 ? NONE : n;
  }

  private static boolean goesOn(int place, int code) {
    if (place == 0) return code == 's';
    if (place >= MOST_CODES) return false;
    switch ((place - 1) % CODES_OF_TANK) {
      case 0: return code == ';';
      case 1: return kindOf(code) != NONE;
      case 2: return code >= '0' && code <= '6';
      case 3: return sideOf(code) != NONE;
      case 4: return code >= '1' && code <= '9';
      default: return code == 'e' || code == 'o';
    }
  }

  private static int kindOf(int code) {
    switch (code) {
      case 'P': return PLAIN;
      case 'W': return WIDE;
      case 'D': return DOUBLE;
      default: return NONE;
    }
  }

  private static int sideOf(int code) {
    switch (code) {
      case 'p': return 0;
      case 'c': return 1;
      case 's': return 2;
      default: return NONE;
    }
  }

  // ---- the waters of all tanks: one number, to the base 3, tank 0's digit the lowest

  private static int waterIn(int waters, int t) {
    return waters / POWERS_OF_3[t] % 3;
  }

  private static int pumped(int waters, int t) {
    int water = waterIn(waters, t);
    int then = water == EMPTY ? NEW : EMPTY;
    return waters + (then - water) * POWERS_OF_3[t];
  }

  private static boolean holds(int set, int t) {
    return (set >> t & 1) == 1;
  }

  private int newWaters(int waters) {
    int found = 0;
    for (int t = 0; t < vessel.count; t++) {
      if (waterIn(waters, t) == NEW) found++;
    }
    return found;
  }

  // ---- days

  private static boolean areTankNumbers(Row row, int i, int n) {
    for (int c = i; c < i + n; c++) {
      if (row.cells[c] < 0 || row.cells[c] >= MOST_TANKS) return false;
    }
    return true;
  }

  private int firstWrong(Row row, int i, int n) {
    int waters = vessel.waters;
    for (int c = 0; c < n; c++) {
      int t = row.cells[i + c];
      if (!isTank(t) || !vessel.canPump(waters, t)) return c;
      waters = pumped(waters, t);
    }
    return NONE;
  }

  /** How all is behind a day in which none is wrong. */
  private int watersBehind(Row row, int i, int n) {
    int waters = vessel.waters;
    for (int c = i; c < i + n; c++) {
      waters = pumped(waters, row.cells[c]);
    }
    return waters;
  }

  private int ofWaters(int waters, int what) {
    int full = vessel.fullSet(waters);
    switch (what) {
      case 0: return newWaters(waters);
      case 2: return Integer.bitCount(full);
      case 3: return 1000 + vessel.loadOf(full).trim;
      case 4: return vessel.loadOf(full).bending();
      default: return isTank(what - 10) ? waterIn(waters, what - 10) : NONE;
    }
  }

  // ---- readings

  private boolean readingsHoldWith(int t, int weight) {
    int trim = vessel.trimWith(t, weight);
    for (int r = 0; r < readingCount; r++) {
      if (readings[r] != trim) return false;
    }
    return true;
  }

  // ---- telling and sounding

  private void leave(int body) {
    traced = 31 * traced + body;
  }

  private int plainTelling(int mass) {
    leave(1);
    return mass;
  }

  private int wideTelling(int mass) {
    leave(2);
    return plainTelling(mass) + 100;
  }

  private int doubleTelling(int mass) {
    leave(3);
    return wideTelling(mass) + plainTelling(mass);
  }

  private int lentSounding(Tank tank) {
    leave(4);
    return tank.frame;
  }

  private int soundingOfDouble(Tank tank) {
    leave(5);
    return lentSounding(tank) + 20;
  }

  private static int weightOf(int kind, int mass) {
    if (kind == WIDE) return mass + 1;
    if (kind == DOUBLE) return 2 * mass;
    return mass;
  }

  /** What a SHEET has: the cells are made once, and used again for each new row. */
  private static final class Row {
    private final int[] cells = new int[MOST_CELLS];
    private int lane = NOTHING;
    private int length = 0;

    boolean isNothing() {
      return lane == NOTHING;
    }

    void renew(int newLane, int n) {
      lane = newLane;
      length = n;
      Arrays.fill(cells, 0);
    }

    void drop() {
      lane = NOTHING;
      length = 0;
    }

    /** The FAULT of taking this as a row of a lane; 0: there is none. */
    int faultAs(int asLane) {
      if (isNothing()) return NULL;
      return lane == asLane ? 0 : CAST;
    }

    // The last test takes no sum, so that no i and n wrap around.
    boolean hasCells(int i, int n) {
      return n >= 0 && i >= 0 && i <= length && n <= length - i;
    }

    void write(int i, int v) {
      if (lane == 0) {
        cells[i] = (byte) v;
      } else if (lane == 1) {
        cells[i] = (short) v;
      } else {
        cells[i] = v;
      }
    }
  }

  private static final class Tank {
    private int kind = PLAIN;
    private int frame = 0;
    private int side = 0;
    private int mass = 0;

    int weight() {
      return weightOf(kind, mass);
    }
  }

  /** All weights together, as they lie along and across the hull. */
  private static final class Load {
    private final int[] inFrame = new int[FRAMES];
    private int total = 0;
    private int trim = 0;
    private int heel = 0;

    void clear() {
      Arrays.fill(inFrame, 0);
      total = 0;
      trim = 0;
      heel = 0;
    }

    void add(Tank tank, int weight) {
      inFrame[tank.frame] += weight;
      total += weight;
      trim += weight * (tank.frame - 3);
      heel += weight * (tank.side - 1);
    }

    int momentOf(int frame) {
      int shear = 0;
      int moment = 0;
      for (int f = 0; f <= frame; f++) {
        shear += FRAMES * inFrame[f] - total;
        moment += shear;
      }
      return moment;
    }

    int bending() {
      int shear = 0;
      int moment = 0;
      int greatest = 0;
      for (int f = 0; f < FRAMES; f++) {
        shear += FRAMES * inFrame[f] - total;
        moment += shear;
        greatest = Math.max(greatest, Math.abs(moment));
      }
      return greatest;
    }

    /** What is bounded by bound k, without sign. */
    int bounded(int k) {
      if (k == 0) return Math.abs(trim);
      if (k == 1) return Math.abs(heel);
      return bending();
    }

    boolean isWithin(int[] bounds, int times) {
      return Math.abs(trim) <= times * bounds[0]
          && Math.abs(heel) <= times * bounds[1]
          && bending() <= times * bounds[2];
    }
  }

  /** The tanks, how they are now, and by what they are bounded. */
  private static final class Ship {
    private final Tank[] tanks = new Tank[MOST_TANKS];
    private final int[] bounds = new int[BOUNDS];
    private final Load load = new Load();
    private int count = 0;
    private int waters = 0;
    private int working = 0;
    private int dueSet = 0;

    Ship() {
      for (int t = 0; t < MOST_TANKS; t++) {
        tanks[t] = new Tank();
      }
    }

    /** Makes all anew by a text without a fault. */
    void build(Row row, int i, int n) {
      count = Math.min(n / CODES_OF_TANK, MOST_TANKS);
      waters = 0;
      for (int t = 0; t < count; t++) {
        int at = i + 1 + t * CODES_OF_TANK;
        tanks[t].kind = kindOf(row.cells[at + 1]);
        tanks[t].frame = row.cells[at + 2] - '0';
        tanks[t].side = sideOf(row.cells[at + 3]);
        tanks[t].mass = row.cells[at + 4] - '0';
        if (row.cells[at + 5] == 'o') waters += OLD * POWERS_OF_3[t];
      }
      dueSet = fullSet(waters);
      working = (1 << count) - 1;
      Arrays.fill(bounds, MOST_BOUND);
    }

    int fullSet(int ofWaters) {
      int full = 0;
      for (int t = 0; t < count; t++) {
        if (waterIn(ofWaters, t) != EMPTY) full |= 1 << t;
      }
      return full;
    }

    /** The load while the tanks of a set are full; it holds until the next one is asked for. */
    Load loadOf(int full) {
      load.clear();
      for (int t = 0; t < count; t++) {
        if (holds(full, t)) load.add(tanks[t], tanks[t].weight());
      }
      return load;
    }

    /** The load twice over while one tank is half full. */
    Load loadHalfway(int full, int half) {
      load.clear();
      for (int t = 0; t < count; t++) {
        int weight = tanks[t].weight();
        if (t == half) {
          load.add(tanks[t], weight);
        } else if (holds(full, t)) {
          load.add(tanks[t], 2 * weight);
        }
      }
      return load;
    }

    boolean isSafe(int full) {
      return loadOf(full).isWithin(bounds, 1);
    }

    boolean isSafeHalfway(int full, int half) {
      return loadHalfway(full, half).isWithin(bounds, 2);
    }

    boolean canPump(int ofWaters, int t) {
      int full = fullSet(ofWaters);
      return holds(working, t) && isSafeHalfway(full, t) && isSafe(full ^ 1 << t);
    }

    int safeLoads() {
      int safe = 0;
      for (int full = 0; full < 1 << count; full++) {
        if (isSafe(full)) safe++;
      }
      return safe;
    }

    int trimWith(int t, int weight) {
      int trim = loadOf(fullSet(waters)).trim;
      if (waterIn(waters, t) == EMPTY) return trim;
      return trim + (weight - tanks[t].weight()) * (tanks[t].frame - 3);
    }

    /** Whether a plan may end with these waters. */
    boolean isChanged(int then) {
      for (int t = 0; t < count; t++) {
        boolean wasFull = waterIn(waters, t) != EMPTY;
        boolean isFull = waterIn(then, t) != EMPTY;
        if (holds(dueSet, t) ? waterIn(then, t) != NEW : isFull != wasFull) return false;
      }
      return true;
    }
  }

  /**
   * All waters that can be come to, those with fewer pumpings first. As tanks are tried in
   * their order, waters with as many pumpings stand in the order of their first rows of
   * tanks: the first end of a plan that is found is the end of the PLAN.
   */
  private static final class Search {
    private final int[] queue = new int[ALL_WATERS];
    private final int[] steps = new int[ALL_WATERS];
    private final int[] before = new int[ALL_WATERS];
    private final int[] lastTank = new int[ALL_WATERS];
    private final long[] ways = new long[ALL_WATERS];
    private final boolean[] safe = new boolean[1 << MOST_TANKS];
    private final int[] pumpable = new int[1 << MOST_TANKS];
    private boolean isFresh = false;
    private int reached = 0;
    private int end = NONE;

    void forget() {
      isFresh = false;
    }

    void refresh(Ship ship) {
      if (isFresh) return;
      findPumpable(ship);
      explore(ship);
      end = findEnd(ship);
      isFresh = true;
    }

    /** Which tanks can be pumped hangs on which are full alone, not on whose water is new. */
    private void findPumpable(Ship ship) {
      for (int full = 0; full < 1 << ship.count; full++) {
        safe[full] = ship.isSafe(full);
        pumpable[full] = 0;
      }
      for (int full = 0; full < 1 << ship.count; full++) {
        for (int t = 0; t < ship.count; t++) {
          if (holds(full & ship.working, t) && ship.isSafeHalfway(full, t)) {
            // Halfway it is the same, whether the tank is pumped out or in.
            int without = full ^ 1 << t;
            if (safe[without]) pumpable[full] |= 1 << t;
            if (safe[full]) pumpable[without] |= 1 << t;
          }
        }
      }
    }

    private void explore(Ship ship) {
      Arrays.fill(steps, NONE);
      queue[0] = ship.waters;
      steps[ship.waters] = 0;
      ways[ship.waters] = 1;
      reached = 1;
      for (int q = 0; q < reached && q < ALL_WATERS; q++) {
        int waters = queue[q];
        int tanks = pumpable[ship.fullSet(waters)];
        for (int t = 0; t < ship.count; t++) {
          if (holds(tanks, t)) step(waters, t);
        }
      }
    }

    private void step(int waters, int t) {
      int then = pumped(waters, t);
      if (steps[then] == NONE && reached < ALL_WATERS) {
        steps[then] = steps[waters] + 1;
        ways[then] = 0;
        before[then] = waters;
        lastTank[then] = t;
        queue[reached] = then;
        reached++;
      }
      if (steps[then] == steps[waters] + 1) ways[then] += ways[waters];
    }

    private int findEnd(Ship ship) {
      for (int q = 0; q < reached; q++) {
        if (ship.isChanged(queue[q])) return queue[q];
      }
      return NONE;
    }

    int planLength() {
      return end == NONE ? NONE : steps[end];
    }

    int planTank(int k) {
      if (k < 0 || k >= planLength()) return NONE;
      int waters = end;
      for (int behind = steps[end] - 1; behind > k; behind--) {
        waters = before[waters];
      }
      return lastTank[waters];
    }

    long shortestPlans(Ship ship) {
      long found = 0;
      for (int q = 0; q < reached; q++) {
        int waters = queue[q];
        if (steps[waters] == planLength() && ship.isChanged(waters)) found += ways[waters];
      }
      return found;
    }

    int worstOfPlan(Ship ship, int what) {
      if (end == NONE) return NONE;
      int waters = end;
      int worst = ship.loadOf(ship.fullSet(waters)).bounded(what);
      for (int left = steps[end]; left > 0; left--) {
        waters = before[waters];
        worst = Math.max(worst, ship.loadOf(ship.fullSet(waters)).bounded(what));
      }
      return worst;
    }
  }
}
