import java.util.Random;

/** All promises at once: long runs of calls, most of them sensible, each answered by the class and by the Model. */
final class ModelTest {
  private static final int RUNS = 3000;
  /** With status() after each, and now and then something told, a run stays below the document's 512 calls. */
  private static final int CALLS = 170;
  private static final int[] ODD = {-1, -2, 4096, 2048, 2049, 97, 32, 8, Integer.MIN_VALUE, Integer.MAX_VALUE};
  private static final int[] PAGES = {
    0, 1, 2, 3, 4, 5, 6, 7, 8, 9, 15, 16, 56, 63, 64, 65, 448, 511, 512, 1024, 1536, 2047, 2048, 2049, 2050, 2055,
    2056, 2112, 2560, 4095, 3584
  };

  private final Random random;
  private final GranuleHall h;
  private final Model m;
  private static final int[] done = new int[40];

  private ModelTest(int seed) {
    random = new Random(seed);
    int size = random.nextInt(4) == 0 ? ODD[random.nextInt(ODD.length)] : 16 + random.nextInt(81);
    h = new GranuleHall(size);
    m = new Model(size);
  }

  public static void main(String[] args) {
    for (int seed = 1; seed <= RUNS; seed++) {
      ModelTest test = new ModelTest(seed);
      if (seed % 8 != 0) {
        test.furnish("run " + seed);
      }
      for (int i = 0; i < CALLS; i++) {
        int op = test.pickOp();
        test.change("run " + seed + ", call " + i + ", op " + op, op);
        if (i % 2 == 0) {
          test.tell("run " + seed + ", call " + i + " told", test.random.nextInt(8));
        }
      }
    }
    for (int op = 0; op < 31; op++) {
      Due.yes("the runs reach op " + op, done[op] > 200);
    }
    Due.end("ModelTest");
  }

  /** A REALM with RTTS for PAGES 0 .. 7 and 2048 .. 2055, some RAM and DATA and two RECS: runs begin deep then. */
  private void furnish(String run) {
    for (int g = 0; g < 12; g++) {
      Due.is(run + ", delegate", m.delegate(g), bit(h.delegate(g)));
    }
    Due.is(run + ", create", m.create(0, 1), bit(h.create(0, 1)));
    for (int level = 1; level <= 3; level++) {
      Due.is(run + ", table", m.table(0, 1 + level, 0, level), bit(h.table(0, 1 + level, 0, level)));
      Due.is(run + ", table", m.table(0, 4 + level, 2048, level), bit(h.table(0, 4 + level, 2048, level)));
    }
    for (int page = 0; page < 5; page++) {
      Due.is(run + ", ripas", m.ripas(0, page), h.ripas(0, page));
    }
    for (int word = 0; word < 9; word++) {
      Due.is(run + ", store", m.store(15, word, -word), bit(h.store(15, word, -word)));
    }
    for (int i = 0; i < 2; i++) {
      Due.is(run + ", data", m.data(0, 8 + i, i, 15), bit(h.data(0, 8 + i, i, 15)));
      Due.is(run + ", rec", m.rec(10 + i, 0, 15), h.rec(10 + i, 0, 15));
    }
    if (random.nextInt(5) > 1) {
      Due.is(run + ", activate", m.activate(0), bit(h.activate(0)));
    }
  }

  private static int bit(boolean b) {
    return b ? 1 : 0;
  }

  private int odd() {
    return ODD[random.nextInt(ODD.length)];
  }

  private boolean seldom() {
    return random.nextInt(25) == 0;
  }

  /** A GRANULE of a STATE, most often; low numbers first, so that runs come back to the same ones. */
  private int g(int state) {
    if (seldom()) return odd();
    if (seldom()) return random.nextInt(m.n);
    int start = random.nextInt(m.n);
    for (int i = 0; i < m.n; i++) {
      int g = (start + i) % m.n;
      if (m.state[g] == state) return g;
    }
    return random.nextInt(m.n);
  }

  private int page() {
    if (seldom()) return odd();
    return PAGES[random.nextInt(PAGES.length)];
  }

  /** A PAGE of LEVEL 3 with low numbers, most often. */
  private int lowPage(int from) {
    return random.nextInt(6) == 0 ? page() : from + random.nextInt(8);
  }

  private int small(int most) {
    return seldom() ? odd() : random.nextInt(most);
  }

  private int pickOp() {
    boolean early = m.realms.isEmpty();
    if (early) return random.nextInt(4) == 0 ? random.nextInt(31) : 2 + random.nextInt(3);
    // more REALMS than a few would leave no GRANULES to go deep with
    if (m.realms.size() > 2 && random.nextBoolean()) return 7 + random.nextInt(13);
    if (m.running != Model.NONE && random.nextInt(3) > 0) return 20 + random.nextInt(11);
    return random.nextInt(31);
  }

  private void change(String run, int op) {
    int[] a = {0, 0, 0, 0};
    int got;
    int want;
    if (op < 10) {
      int[] both = hostFirst(op, a);
      got = both[0];
      want = both[1];
    } else if (op < 20) {
      int[] both = hostSecond(op, a);
      got = both[0];
      want = both[1];
    } else {
      int[] both = act(op, a);
      got = both[0];
      want = both[1];
    }
    String what = run + " (" + a[0] + ", " + a[1] + ", " + a[2] + ", " + a[3] + ")";
    Due.is(what, want, got);
    Due.is(what + ", status()", m.status, h.status());
    if (m.status == 0) done[op]++;
  }

  private int[] both(int got, int want) {
    return new int[] {got, want};
  }

  private void set(int[] a, int... v) {
    System.arraycopy(v, 0, a, 0, v.length);
  }

  private int level() {
    return seldom() ? odd() : 1 + random.nextInt(3);
  }

  /** The first PAGE of an ENTRY of the LEVEL above, near the places that the other calls use. */
  private int place(int level) {
    if (level < 1 || level > 3 || seldom()) return page();
    int from = random.nextInt(3) == 0 ? 2048 : 0;
    return from + (random.nextInt(3) == 0 ? Model.span(level - 1) : 0);
  }

  private int[] hostFirst(int op, int[] a) {
    switch (op) {
      case 0:
        set(a, g(0), small(32));
        return both(h.load(a[0], a[1]), m.load(a[0], a[1]));
      case 1:
        set(a, g(0), small(random.nextBoolean() ? 32 : 9), random.nextInt());
        return both(bit(h.store(a[0], a[1], a[2])), m.store(a[0], a[1], a[2]));
      case 2: case 3:
        set(a, g(0));
        return both(bit(h.delegate(a[0])), m.delegate(a[0]));
      case 4:
        set(a, g(1), g(1));
        return both(bit(h.create(a[0], a[1])), m.create(a[0], a[1]));
      case 5:
        set(a, g(1));
        return both(bit(h.undelegate(a[0])), m.undelegate(a[0]));
      case 6:
        set(a, g(2));
        return random.nextInt(3) == 0 ? both(bit(h.destroy(a[0])), m.destroy(a[0]))
            : both(bit(h.activate(a[0])), m.activate(a[0]));
      case 7:
        set(a, g(1), g(2), g(0));
        return both(h.rec(a[0], a[1], a[2]), m.rec(a[0], a[1], a[2]));
      case 8:
        set(a, g(3));
        return random.nextInt(4) == 0 ? both(bit(h.end(a[0])), m.end(a[0])) : both(h.change(a[0]), m.change(a[0]));
      default:
        int level = level();
        set(a, g(2), g(1), place(level), level);
        return both(bit(h.table(a[0], a[1], a[2], a[3])), m.table(a[0], a[1], a[2], a[3]));
    }
  }

  private int[] hostSecond(int op, int[] a) {
    int level = level();
    switch (op) {
      case 10: case 11:
        set(a, g(2), g(1), place(level), level);
        return both(bit(h.table(a[0], a[1], a[2], a[3])), m.table(a[0], a[1], a[2], a[3]));
      case 12:
        set(a, g(2), place(level), level);
        return random.nextBoolean() ? both(bit(h.untable(a[0], a[1], a[2])), m.untable(a[0], a[1], a[2]))
            : both(bit(h.fold(a[0], a[1], a[2])), m.fold(a[0], a[1], a[2]));
      case 13:
        set(a, g(2), lowPage(0));
        return both(h.ripas(a[0], a[1]), m.ripas(a[0], a[1]));
      case 14:
        set(a, g(2), g(1), lowPage(0), g(0));
        return both(bit(h.data(a[0], a[1], a[2], a[3])), m.data(a[0], a[1], a[2], a[3]));
      case 15:
        set(a, g(2), g(1), lowPage(0));
        return both(bit(h.unknown(a[0], a[1], a[2])), m.unknown(a[0], a[1], a[2]));
      case 16:
        set(a, g(2), lowPage(0));
        return both(h.undata(a[0], a[1]), m.undata(a[0], a[1]));
      case 17:
        set(a, g(2), lowPage(2048), random.nextBoolean() ? g(0) : small(m.n));
        return both(bit(h.map(a[0], a[1], a[2])), m.map(a[0], a[1], a[2]));
      case 18:
        set(a, g(2), lowPage(2048));
        return both(h.unmap(a[0], a[1]), m.unmap(a[0], a[1]));
      default:
        set(a, g(3), g(0));
        return both(bit(h.enter(a[0], a[1])), m.enter(a[0], a[1]));
    }
  }

  private int[] act(int op, int[] a) {
    int from = random.nextInt(4) == 0 ? 2048 : 0;
    switch (op) {
      case 20:
        set(a, small(8), random.nextInt());
        return both(h.move(a[0], a[1]), m.move(a[0], a[1]));
      case 21:
        set(a, small(8), lowPage(from), small(32));
        return both(h.fetch(a[0], a[1], a[2]), m.fetch(a[0], a[1], a[2]));
      case 22:
        set(a, small(8), lowPage(from), small(32));
        return both(h.put(a[0], a[1], a[2]), m.put(a[0], a[1], a[2]));
      case 23:
        return both(h.yield1(), m.yield1());
      case 24:
        return random.nextInt(5) == 0 ? both(h.off(), m.off()) : both(h.yield1(), m.yield1());
      case 25:
        set(a, lowPage(0));
        return both(h.state(a[0]), m.state(a[0]));
      case 26:
        set(a, lowPage(0), random.nextBoolean() ? lowPage(1) : page(), small(2));
        return both(h.ask(a[0], a[1], a[2]), m.ask(a[0], a[1], a[2]));
      case 27:
        set(a, lowPage(0));
        return both(h.call(a[0]), m.call(a[0]));
      case 28:
        set(a, small(5));
        return both(h.measure(a[0]), m.measure(a[0]));
      case 29:
        set(a, small(5));
        return both(h.extend(a[0]), m.extend(a[0]));
      default:
        set(a, lowPage(0));
        return both(h.attest(a[0]), m.attest(a[0]));
    }
  }

  private void tell(String run, int kind) {
    int rd = g(2);
    int page = page();
    int what = small(8);
    String args = run + " " + kind + " (" + rd + ", " + page + ", " + what + ")";
    switch (kind) {
      case 0:
        int g = small(m.n);
        Due.is(args + ", granule " + g, m.granule(g, what % 4), h.granule(g, what % 4));
        break;
      case 1:
        Due.is(args + ", realm", m.realm(rd, what), h.realm(rd, what));
        break;
      case 2:
        int level = small(4);
        Due.is(args + ", walk to " + level, m.walk(rd, page, level, what % 4), h.walk(rd, page, level, what % 4));
        break;
      case 3:
        int rec = g(3);
        int part = small(14);
        Due.is(args + ", context(" + rec + ", " + part + ")", m.context(rec, part), h.context(rec, part));
        break;
      case 4:
        int i = small(5);
        Due.is(args + ", measured " + i, m.measured(rd, i, what), h.measured(rd, i, what));
        break;
      case 5:
        int k = small(12);
        Due.is(args + ", count(" + k + ")", m.count(k), h.count(k));
        break;
      case 6:
        Due.is(args + ", status()", m.status, h.status());
        break;
      default:
        Due.is(args + ", astray()", 0, h.astray());
        break;
    }
  }
}
