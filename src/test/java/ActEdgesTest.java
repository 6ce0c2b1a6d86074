/** The edges of promises 22 to 29: move, fetch, put, yield1, off, state, ask, call. */
final class ActEdgesTest {
  private static final int RD = Scene.RD;
  private static final int REC = Scene.REC;
  private static final int RUN = Scene.RUN;
  private static final int HOST = Scene.HOST;
  private static final int FREE = Scene.FREE;

  public static void main(String[] args) {
    cases();
    Edge.run("ActEdgesTest");
  }

  static void cases() {
    Edge.section(22);
    move();
    Edge.section(23);
    fetch();
    Edge.section(24);
    put();
    Edge.section(25);
    yield1();
    Edge.section(26);
    off();
    Edge.section(27);
    state();
    Edge.section(28);
    ask();
    Edge.section(29);
    call();
  }

  /** A REC runs, with DATA that is RAM at the first PAGE and at the last that is PROTECTED. */
  private static Hall atEnds() {
    Hall h = Scene.ends().with("ripas", RD, 0).with("ripas", RD, 2047);
    h.with("unknown", RD, FREE, 0).with("unknown", RD, Scene.FREE2, 2047);
    h.with("map", RD, 2048, HOST).with("map", RD, 4095, HOST);
    h.with("store", Scene.PARAMS, 8, 1).with("rec", REC, RD, Scene.PARAMS);
    return h.with("activate", RD).with("enter", REC, RUN);
  }

  private static void move() {
    String quote = "A register becomes v.";
    for (int v : new int[] {0, -1, Edge.MIN, Edge.MAX}) {
      Edge.test(quote, "v is " + v, () -> Scene.running().done(0, "move", 3, v).tells(v, "context", REC, 3));
    }
    for (int k = 0; k < 8; k++) {
      int register = k;
      Edge.test(quote, "X" + k + ", and no other", () -> {
        Hall h = Scene.running().done(0, "move", register, -5);
        for (int other = 0; other < 8; other++) {
          h.tells(other == register ? -5 : 100 + other, "context", REC, other);
        }
      });
    }
    Edge.actFaults(quote, Scene::running, Edge.NO_REGISTERS, "move", 0, 0, 1);
    Edge.refused(quote, "none is RUNNING", Scene::active, 4, "move", 0, 1);
  }

  private static void fetch() {
    String quote = "A register becomes the WORD of a PAGE.";
    for (int page : new int[] {0, 2047, 2048, 4095}) {
      Edge.done(quote, "PAGE " + page, ActEdgesTest::atEnds, 0, "fetch", 0, page, 0);
    }
    Edge.test(quote, "the first WORD to the last register, the last to the first", () -> Scene.running()
        .done(0, "fetch", 7, 5, 0).tells(500, "context", REC, 7).done(0, "fetch", 0, 5, 31)
        .tells(531, "context", REC, 0).tells(101, "context", REC, 1).tells(106, "context", REC, 6));
    Edge.actFaults(quote, Scene::running, Edge.NO_REGISTERS, "fetch", 0, 0, 5, 0);
    Edge.actFaults(quote, Scene::running, Edge.NO_PAGES, "fetch", 1, 0, 5, 0);
    Edge.actFaults(quote, Scene::running, Edge.NO_WORDS, "fetch", 2, 0, 5, 0);
    Edge.faults(quote, "EMPTY", Scene::running, "fetch", 0, 4, 0);
    Edge.test(quote, "RAM, UNASSIGNED", () -> Scene.running().exits(RUN, new int[] {5, 6, 0}, "fetch", 0, 6, 0));
    Edge.refused(quote, "none is RUNNING", Scene::active, 4, "fetch", 0, 5, 0);
  }

  private static void put() {
    String quote = "The WORD of a PAGE becomes what a register has.";
    for (int page : new int[] {0, 2047, 2048, 4095}) {
      Edge.test(quote, "PAGE " + page, () -> atEnds().with("move", 7, Edge.MIN).done(0, "put", 7, page, 31)
          .done(0, "fetch", 1, page, 31).tells(Edge.MIN, "context", REC, 1).done(0, "fetch", 1, page, 30)
          .tells(0, "context", REC, 1));
    }
    Edge.test(quote, "the WORDS beside it stay, and the register", () -> Scene.running().done(0, "put", 2, 5, 8)
        .tells(102, "context", REC, 2).done(0, "fetch", 1, 5, 7).tells(507, "context", REC, 1)
        .done(0, "fetch", 1, 5, 9).tells(509, "context", REC, 1).done(0, "fetch", 1, 5, 8)
        .tells(102, "context", REC, 1));
    Edge.actFaults(quote, Scene::running, Edge.NO_REGISTERS, "put", 0, 0, 5, 0);
    Edge.actFaults(quote, Scene::running, Edge.NO_PAGES, "put", 1, 0, 5, 0);
    Edge.actFaults(quote, Scene::running, Edge.NO_WORDS, "put", 2, 0, 5, 0);
    Edge.faults(quote, "EMPTY", Scene::running, "put", 0, 4, 0);
    Edge.test(quote, "RAM, UNASSIGNED", () -> Scene.running().exits(RUN, new int[] {5, 6, 1}, "put", 0, 6, 0));
    Edge.refused(quote, "none is RUNNING", Scene::active, 4, "put", 0, 5, 0);
  }

  private static void yield1() {
    Edge.test("YIELD.", "it EXITS, with nothing PENDING", () -> Scene.running().exits(RUN, new int[] {1}, "yield1")
        .tells(0, "context", REC, 10).tells(0, "context", REC, 9).tells(1, "realm", RD, 0).tells(1, "count", 9)
        .tells(0, "count", 10).tells(100, "context", REC, 0));
    Edge.refused("YIELD.", "none is RUNNING", Scene::active, 4, "yield1");
    Edge.refused("YIELD.", "it is READY again", () -> Scene.running().with("yield1"), 4, "yield1");
  }

  private static void off() {
    String quote = "The REALM is OFF; OFF.";
    Edge.test(quote, "it EXITS, and the REALM is OFF", () -> Scene.running().exits(RUN, new int[] {4}, "off")
        .tells(2, "realm", RD, 0).tells(0, "context", REC, 9).tells(0, "context", REC, 10).tells(1, "count", 9)
        .refused(3, "enter", REC, RUN));
    Edge.test(quote, "no other REALM is", () -> Scene.crowd().with("enter", REC, RUN).done(2, "off")
        .tells(2, "realm", RD, 0).tells(1, "realm", Scene.RD2, 0).yes("enter", Scene.REC3, RUN));
    Edge.test(quote, "a REALM that is OFF stays so", () -> Scene.off().refused(3, "activate", RD)
        .tells(2, "realm", RD, 0));
    Edge.refused(quote, "none is RUNNING", Scene::active, 4, "off");
  }

  private static void state() {
    String quote = "X0 becomes the RIPAS of a PROTECTED PAGE's LEAF.";
    int[][] pages = {
      {0, 0}, {1, 0}, {2, 1}, {3, 1}, {4, 2}, {5, 2}, {8, 0}, {16, 1}, {23, 1}, {24, 2}, {64, 0}, {128, 1}, {192, 2},
      {512, 0}, {1024, 1}, {1535, 1}, {1536, 2}, {2047, 2}
    };
    for (int[] p : pages) {
      Edge.test(quote, "PAGE " + p[0], () -> Scene.reaching().with("move", 0, 9).with("move", 1, 8)
          .done(0, "state", p[0]).tells(p[1], "context", REC, 0).tells(8, "context", REC, 1).tells(REC, "count", 7));
    }
    Edge.actFaults("FAULT: no such PAGE.", Scene::running, Edge.NOT_PROTECTED, "state", 0, 5);
    Edge.faults("FAULT: no such PAGE.", "a PAGE that is mapped", Scene::reaching, "state", 2048);
    Edge.refused(quote, "none is RUNNING", Scene::active, 4, "state", 5);
  }

  private static void ask() {
    String quote = "CHANGE, PENDING with NEXT from.";
    int[][] good = {{0, 1, 0}, {0, 2048, 1}, {2047, 2048, 0}, {5, 6, 1}, {2046, 2047, 1}};
    for (int[] g : good) {
      Edge.test(quote, "from " + g[0] + " to " + g[1] + ", RIPAS " + g[2], () -> Scene.running()
          .exits(RUN, new int[] {3, g[0], g[1], g[2]}, "ask", g[0], g[1], g[2]).tells(2, "context", REC, 10)
          .tells(g[0], "context", REC, 11).tells(g[1], "context", REC, 12).tells(0, "context", REC, 9)
          .tells(1, "walk", RD, 5, 3, 2).tells(0, "walk", RD, 0, 3, 2));
    }
    String faults = "FAULT: not from below to, both 0 .. 2048, or RIPAS is not 0, 1.";
    int[][] bad = {
      {5, 5, 1}, {6, 5, 1}, {0, 0, 1}, {2048, 2048, 1}, {2048, 0, 1}, {-1, 5, 1}, {-1, 0, 1}, {-2, -1, 1},
      {0, 2049, 1}, {2047, 2049, 1}, {2048, 2049, 1}, {2049, 2050, 1}, {0, 4096, 1}, {Edge.MIN, 5, 1},
      {0, Edge.MAX, 1}, {Edge.MIN, Edge.MAX, 1}, {Edge.MAX, Edge.MIN, 1}, {Edge.MIN, Edge.MIN, 1}, {0, Edge.MIN, 1},
      {0, 1, -1}, {0, 1, 2}, {0, 1, 3}, {0, 1, Edge.MIN}, {0, 1, Edge.MAX}
    };
    for (int[] b : bad) {
      Edge.faults(faults, "from " + b[0] + " to " + b[1] + ", RIPAS " + b[2], Scene::running, "ask", b);
    }
    Edge.refused(quote, "none is RUNNING", Scene::active, 4, "ask", 0, 1, 1);
  }

  private static void call() {
    String quote = "CALL, PENDING, by a PROTECTED PAGE (REACHED).";
    int[] called = {2, 501, 502, 503, 504, 505, 506, 507, 508};
    Edge.test(quote, "it EXITS, and is PENDING", () -> Scene.running().exits(RUN, called, "call", 5)
        .tells(1, "context", REC, 10).tells(-1, "context", REC, 11).tells(-1, "context", REC, 12)
        .tells(0, "context", REC, 9).tells(100, "context", REC, 0));
    for (int page : new int[] {0, 2047}) {
      Edge.test(quote, "PAGE " + page, () -> atEnds().with("move", 1, 7).with("put", 1, page, 8)
          .exits(RUN, new int[] {2, 0, 0, 0, 0, 0, 0, 0, 7}, "call", page).with("store", RUN, 1, 44)
          .with("enter", REC, RUN).tells(0, "context", REC, 0).with("fetch", 2, page, 1).tells(44, "context", REC, 2));
    }
    Edge.faults(quote, "EMPTY", Scene::running, "call", 4);
    Edge.test(quote, "RAM, UNASSIGNED: an ABORT, and nothing is PENDING", () -> Scene.running()
        .exits(RUN, new int[] {5, 6, 0}, "call", 6).tells(0, "context", REC, 10).with("enter", REC, RUN)
        .tells(100, "context", REC, 0));
    Edge.refused(quote, "none is RUNNING", Scene::active, 4, "call", 5);
    Edge.actFaults("FAULT: no such PAGE.", ActEdgesTest::atEnds, Edge.NOT_PROTECTED, "call", 0, 0);
  }
}
