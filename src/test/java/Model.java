import java.util.Arrays;
import java.util.HashMap;
import java.util.Map;

/**
 * The document again, in another form: RIPAS and GRANULES are kept by PAGE, RTTS in a map from their LEVEL and
 * first PAGE. It is written for likeness to the document alone, so that the class can be compared with it.
 */
final class Model {
  static final int NONE = -1;

  static final class R {
    int how;
    int root;
    int came;
    final Map<Integer, Integer> tables = new HashMap<>();
    final int[] ripas = new int[4096];
    final int[] assigned = new int[4096];
    final int[][] measurements = new int[5][8];
  }

  static final class C {
    int rd;
    int[] x;
    boolean runnable;
    int run;
    int pending;
    int page;
    int next;
    int to;
    int ripas;
    int entered;
  }

  final int n;
  final int[] state;
  final int[][] words;
  final int[] rdOf;
  final int[] mark;
  final Map<Integer, R> realms = new HashMap<>();
  final Map<Integer, C> recs = new HashMap<>();
  int running = NONE;
  int status;
  int exits;
  int faults;

  Model(int granules) {
    n = granules < 16 || granules > 96 ? 32 : granules;
    state = new int[n];
    words = new int[n][32];
    rdOf = new int[n];
    mark = new int[n];
    Arrays.fill(rdOf, NONE);
    Arrays.fill(mark, NONE);
  }

  // ---- helpers

  private int why(int status, int answer) {
    this.status = status;
    return answer;
  }

  private boolean out(int... granules) {
    for (int g : granules) {
      if (g < 0 || g >= n) {
        return true;
      }
    }
    return false;
  }

  private static boolean in(int v, int from, int below) {
    return v >= from && v < below;
  }

  private void turn(int g, int to, int rd, int what) {
    state[g] = to;
    rdOf[g] = rd;
    mark[g] = what;
    words[g] = new int[32];
  }

  static int span(int level) {
    return new int[] {512, 64, 8, 1}[level];
  }

  private static int first(int page, int level) {
    return page / span(level) * span(level);
  }

  /** The RTT of a LEVEL that covers a PAGE, or null. */
  private static Integer tableOf(R r, int page, int level) {
    return r.tables.get(level * 4096 + first(page, level - 1));
  }

  private static int endLevel(R r, int page, int most) {
    int level = 0;
    while (level < most && tableOf(r, page, level + 1) != null) {
      level++;
    }
    return level;
  }

  private int count(int rd, int wanted) {
    int k = 0;
    for (int g = 0; g < n; g++) {
      if (state[g] == wanted && (rd == NONE || rdOf[g] == rd)) {
        k++;
      }
    }
    return k;
  }

  private static void extend(int[] measurement, int[]... by) {
    System.arraycopy(Sha.extended(measurement, by), 0, measurement, 0, 8);
  }

  // ---- the host

  int load(int g, int w) {
    if (out(g) || !in(w, 0, 32)) return why(1, NONE);
    if (state[g] != 0) return why(2, NONE);
    return why(0, words[g][w]);
  }

  int store(int g, int w, int v) {
    if (out(g) || !in(w, 0, 32)) return why(1, 0);
    if (state[g] != 0) return why(2, 0);
    words[g][w] = v;
    return why(0, 1);
  }

  int delegate(int g) {
    if (out(g)) return why(1, 0);
    if (state[g] != 0) return why(2, 0);
    turn(g, 1, NONE, NONE);
    return why(0, 1);
  }

  int undelegate(int g) {
    if (out(g)) return why(1, 0);
    if (state[g] != 1) return why(2, 0);
    turn(g, 0, NONE, NONE);
    return why(0, 1);
  }

  int create(int rd, int rtt) {
    if (out(rd, rtt) || rd == rtt) return why(1, 0);
    if (state[rd] != 1 || state[rtt] != 1) return why(2, 0);
    R r = new R();
    r.root = rtt;
    Arrays.fill(r.assigned, NONE);
    r.measurements[0] = Sha.of(1, n);
    realms.put(rd, r);
    turn(rd, 2, rd, NONE);
    turn(rtt, 4, rd, 0);
    return why(0, 1);
  }

  int activate(int rd) {
    if (out(rd)) return why(1, 0);
    if (state[rd] != 2) return why(2, 0);
    if (realms.get(rd).how != 0) return why(3, 0);
    realms.get(rd).how = 1;
    return why(0, 1);
  }

  int destroy(int rd) {
    if (out(rd)) return why(1, 0);
    if (state[rd] != 2) return why(2, 0);
    R r = realms.get(rd);
    if (count(rd, 3) > 0 || !r.tables.isEmpty()) return why(3, 0);
    realms.remove(rd);
    turn(r.root, 1, NONE, NONE);
    turn(rd, 1, NONE, NONE);
    return why(0, 1);
  }

  int rec(int rec, int rd, int params) {
    if (out(rec, rd, params)) return why(1, NONE);
    if (state[rec] != 1 || state[rd] != 2 || state[params] != 0) return why(2, NONE);
    R r = realms.get(rd);
    if (r.how != 0) return why(3, NONE);
    C c = new C();
    c.rd = rd;
    c.x = Arrays.copyOf(words[params], 8);
    c.runnable = words[params][8] != 0;
    int number = r.came++;
    recs.put(rec, c);
    turn(rec, 3, rd, number);
    extend(r.measurements[0], Sha.words(4, number, c.runnable ? 1 : 0), c.x);
    return why(0, number);
  }

  int end(int rec) {
    if (out(rec)) return why(1, 0);
    if (state[rec] != 3) return why(2, 0);
    if (running == rec) return why(4, 0);
    recs.remove(rec);
    turn(rec, 1, NONE, NONE);
    return why(0, 1);
  }

  private static boolean noPlace(int page, int level) {
    return !in(page, 0, 4096) || !in(level, 1, 4) || page % span(level - 1) != 0;
  }

  int table(int rd, int rtt, int page, int level) {
    if (out(rd, rtt) || noPlace(page, level)) return why(1, 0);
    if (state[rd] != 2 || state[rtt] != 1) return why(2, 0);
    R r = realms.get(rd);
    if (endLevel(r, page, level) != level - 1) return why(5, 0);
    r.tables.put(level * 4096 + page, rtt);
    turn(rtt, 4, rd, level);
    return why(0, 1);
  }

  private int takeTable(int rd, int page, int level, boolean folding) {
    if (out(rd) || noPlace(page, level)) return why(1, 0);
    if (state[rd] != 2) return why(2, 0);
    R r = realms.get(rd);
    Integer rtt = tableOf(r, page, level);
    if (rtt == null) return why(5, 0);
    for (int p = page; p < page + span(level - 1); p++) {
      if (r.assigned[p] != NONE || (level < 3 && tableOf(r, p, level + 1) != null)) return why(5, 0);
      if (folding && r.ripas[p] != r.ripas[page]) return why(5, 0);
    }
    r.tables.remove(level * 4096 + page);
    turn(rtt, 1, NONE, NONE);
    if (!folding) {
      Arrays.fill(r.ripas, page, page + span(level - 1), page < 2048 ? 2 : 0);
    }
    return why(0, 1);
  }

  int untable(int rd, int page, int level) {
    return takeTable(rd, page, level, false);
  }

  int fold(int rd, int page, int level) {
    return takeTable(rd, page, level, true);
  }

  int ripas(int rd, int page) {
    if (out(rd) || !in(page, 0, 2048)) return why(1, NONE);
    if (state[rd] != 2) return why(2, NONE);
    R r = realms.get(rd);
    if (r.how != 0) return why(3, NONE);
    if (r.assigned[page] != NONE) return why(5, NONE);
    int span = span(endLevel(r, page, 3));
    int from = page / span * span;
    Arrays.fill(r.ripas, from, from + span, 1);
    extend(r.measurements[0], Sha.words(3, from, span));
    return why(0, span);
  }

  int data(int rd, int data, int page, int source) {
    if (out(rd, data, source) || !in(page, 0, 2048)) return why(1, 0);
    if (state[rd] != 2 || state[data] != 1 || state[source] != 0) return why(2, 0);
    R r = realms.get(rd);
    if (r.how != 0) return why(3, 0);
    if (endLevel(r, page, 3) != 3 || r.assigned[page] != NONE || r.ripas[page] != 1) return why(5, 0);
    r.assigned[page] = data;
    turn(data, 5, rd, page);
    words[data] = words[source].clone();
    extend(r.measurements[0], Sha.words(2, page), Sha.of(words[data]));
    return why(0, 1);
  }

  int unknown(int rd, int data, int page) {
    if (out(rd, data) || !in(page, 0, 2048)) return why(1, 0);
    if (state[rd] != 2 || state[data] != 1) return why(2, 0);
    R r = realms.get(rd);
    if (r.how == 2) return why(3, 0);
    if (endLevel(r, page, 3) != 3 || r.assigned[page] != NONE) return why(5, 0);
    r.assigned[page] = data;
    turn(data, 5, rd, page);
    return why(0, 1);
  }

  int undata(int rd, int page) {
    if (out(rd) || !in(page, 0, 2048)) return why(1, NONE);
    if (state[rd] != 2) return why(2, NONE);
    R r = realms.get(rd);
    int g = r.assigned[page];
    if (g == NONE) return why(5, NONE);
    r.assigned[page] = NONE;
    if (r.ripas[page] == 1) {
      r.ripas[page] = 2;
    }
    turn(g, 1, NONE, NONE);
    return why(0, g);
  }

  int map(int rd, int page, int g) {
    if (out(rd, g) || !in(page, 2048, 4096)) return why(1, 0);
    if (state[rd] != 2) return why(2, 0);
    R r = realms.get(rd);
    if (endLevel(r, page, 3) != 3 || r.assigned[page] != NONE) return why(5, 0);
    r.assigned[page] = g;
    return why(0, 1);
  }

  int unmap(int rd, int page) {
    if (out(rd) || !in(page, 2048, 4096)) return why(1, NONE);
    if (state[rd] != 2) return why(2, NONE);
    R r = realms.get(rd);
    int g = r.assigned[page];
    if (g == NONE) return why(5, NONE);
    r.assigned[page] = NONE;
    return why(0, g);
  }

  int enter(int rec, int run) {
    if (out(rec, run)) return why(1, 0);
    if (state[rec] != 3 || state[run] != 0) return why(2, 0);
    C c = recs.get(rec);
    R r = realms.get(c.rd);
    if (r.how != 1) return why(3, 0);
    if (!c.runnable || running != NONE) return why(4, 0);
    c.run = run;
    c.entered++;
    if (c.pending == 1) {
      int g = r.assigned[c.page];
      boolean open = g != NONE && r.ripas[c.page] == 1;
      for (int i = 1; open && i <= 8; i++) {
        words[g][i] = words[run][i];
      }
      c.x[0] = open ? 0 : 1;
    }
    if (c.pending == 2) {
      c.x[0] = c.next == c.to ? 0 : 1;
      c.x[1] = c.next;
    }
    c.pending = 0;
    running = rec;
    return why(0, 1);
  }

  int change(int rec) {
    if (out(rec)) return why(1, NONE);
    if (state[rec] != 3) return why(2, NONE);
    C c = recs.get(rec);
    if (c.pending != 2 || c.next == c.to) return why(4, NONE);
    R r = realms.get(c.rd);
    int span = span(endLevel(r, c.next, 3));
    if (c.next % span != 0 || c.next + span > c.to) return why(5, NONE);
    Arrays.fill(r.ripas, c.next, c.next + span, c.ripas);
    c.next += span;
    return why(0, c.next);
  }

  // ---- acts

  private int fault() {
    faults++;
    return why(0, 1);
  }

  private int exit(int... told) {
    C c = recs.get(running);
    if (state[c.run] == 0) {
      words[c.run] = Arrays.copyOf(told, 32);
    }
    running = NONE;
    exits++;
    return why(0, 2);
  }

  private C c() {
    return recs.get(running);
  }

  private R r() {
    return realms.get(c().rd);
  }

  /** A GRANULE; -1 FAULT, -2 ABORT. */
  private int reach(int page) {
    int g = r().assigned[page];
    if (page < 2048) {
      if (r().ripas[page] == 0) return -1;
      return g != NONE && r().ripas[page] == 1 ? g : -2;
    }
    return g != NONE && state[g] == 0 ? g : -2;
  }

  int move(int register, int v) {
    if (running == NONE) return why(4, NONE);
    if (!in(register, 0, 8)) return fault();
    c().x[register] = v;
    return why(0, 0);
  }

  int fetch(int register, int page, int word) {
    if (running == NONE) return why(4, NONE);
    if (!in(register, 0, 8) || !in(page, 0, 4096) || !in(word, 0, 32)) return fault();
    int g = reach(page);
    if (g == -1) return fault();
    if (g == -2) return exit(5, page, 0);
    c().x[register] = words[g][word];
    return why(0, 0);
  }

  int put(int register, int page, int word) {
    if (running == NONE) return why(4, NONE);
    if (!in(register, 0, 8) || !in(page, 0, 4096) || !in(word, 0, 32)) return fault();
    int g = reach(page);
    if (g == -1) return fault();
    if (g == -2) return exit(5, page, 1);
    words[g][word] = c().x[register];
    return why(0, 0);
  }

  int yield1() {
    if (running == NONE) return why(4, NONE);
    return exit(1);
  }

  int off() {
    if (running == NONE) return why(4, NONE);
    r().how = 2;
    return exit(4);
  }

  int state(int page) {
    if (running == NONE) return why(4, NONE);
    if (!in(page, 0, 2048)) return fault();
    c().x[0] = r().ripas[page];
    return why(0, 0);
  }

  int ask(int from, int to, int ripas) {
    if (running == NONE) return why(4, NONE);
    if (from >= to || !in(from, 0, 2049) || !in(to, 0, 2049) || !in(ripas, 0, 2)) return fault();
    C c = c();
    c.pending = 2;
    c.next = from;
    c.to = to;
    c.ripas = ripas;
    return exit(3, from, to, ripas);
  }

  int call(int page) {
    if (running == NONE) return why(4, NONE);
    if (!in(page, 0, 2048)) return fault();
    int g = reach(page);
    if (g == -1) return fault();
    if (g == -2) return exit(5, page, 0);
    c().pending = 1;
    c().page = page;
    int[] told = Arrays.copyOf(words[g], 9);
    told[0] = 2;
    return exit(told);
  }

  int measure(int i) {
    if (running == NONE) return why(4, NONE);
    if (!in(i, 0, 5)) return fault();
    c().x = r().measurements[i].clone();
    return why(0, 0);
  }

  int extend(int i) {
    if (running == NONE) return why(4, NONE);
    if (!in(i, 1, 5)) return fault();
    extend(r().measurements[i], c().x);
    return why(0, 0);
  }

  int attest(int page) {
    if (running == NONE) return why(4, NONE);
    if (!in(page, 0, 2048)) return fault();
    int g = reach(page);
    if (g == -1) return fault();
    if (g == -2) return exit(5, page, 1);
    int[][] m = r().measurements;
    int[] body = Sha.join(Sha.words(0x544f4b31), c().x, m[0], Sha.of(Sha.join(m[1], m[2], m[3], m[4])));
    words[g] = Arrays.copyOf(Sha.join(body, Sha.of(body)), 32);
    return why(0, 0);
  }

  // ---- what is told

  int granule(int g, int what) {
    if (out(g) || !in(what, 0, 3)) return NONE;
    return what == 0 ? state[g] : what == 1 ? rdOf[g] : mark[g];
  }

  int realm(int rd, int what) {
    R r = realms.get(rd);
    if (r == null || !in(what, 0, 7)) return NONE;
    int ram = 0;
    for (int p = 0; p < 4096; p++) {
      ram += r.ripas[p] == 1 ? 1 : 0;
    }
    return new int[] {r.how, r.root, count(rd, 3), count(rd, 4), count(rd, 5), ram, r.came}[what];
  }

  int walk(int rd, int page, int level, int what) {
    R r = realms.get(rd);
    if (r == null || !in(page, 0, 4096) || !in(level, 0, 4) || !in(what, 0, 4)) return NONE;
    int k = endLevel(r, page, level);
    Integer below = k < 3 ? tableOf(r, page, k + 1) : null;
    int g = below != null ? below : r.assigned[page];
    int entry = below != null ? 2 : g == NONE ? 0 : 1;
    return new int[] {k, entry, below != null ? 0 : r.ripas[page], g}[what];
  }

  int context(int rec, int what) {
    C c = recs.get(rec);
    if (c == null || !in(what, 0, 14)) return NONE;
    if (what < 8) return c.x[what];
    int next = c.pending == 2 ? c.next : NONE;
    int to = c.pending == 2 ? c.to : NONE;
    return new int[] {c.runnable ? 1 : 0, running == rec ? 1 : 0, c.pending, next, to, c.entered}[what - 8];
  }

  int measured(int rd, int i, int k) {
    R r = realms.get(rd);
    return r == null || !in(i, 0, 5) || !in(k, 0, 8) ? 0 : r.measurements[i][k];
  }

  int count(int what) {
    if (!in(what, 0, 11)) return NONE;
    if (what >= 1 && what <= 6) return count(NONE, what - 1);
    return what == 0 ? n : what == 7 ? running : what == 8 ? realms.size() : what == 9 ? exits : faults;
  }
}
