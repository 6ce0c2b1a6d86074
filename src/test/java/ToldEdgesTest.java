/** The edges of promises 33 to 40: what is told. */
final class ToldEdgesTest {
  private static final int RD = Scene.RD;
  private static final int REC = Scene.REC;
  private static final int RUN = Scene.RUN;
  private static final int HOST = Scene.HOST;
  private static final int FREE = Scene.FREE;
  private static final String NONE_SUCH = "NONE for others, or if there is none such";

  public static void main(String[] args) {
    cases();
    Edge.run("ToldEdgesTest");
  }

  static void cases() {
    Edge.section(33);
    granule();
    Edge.section(34);
    realm();
    Edge.section(35);
    walk();
    Edge.section(36);
    context();
    Edge.section(37);
    measured();
    Edge.section(38);
    count();
    Edge.section(39);
    status();
    Edge.section(40);
    astray();
  }

  private static void granule() {
    String quote = "0 STATE, 1 the RD of the REALM that it is of (RD: itself; NONE of UNDELEGATED, DELEGATED)";
    int[][] want = {
      {HOST, 0, -1, -1}, {FREE, 1, -1, -1}, {RD, 2, RD, -1}, {REC, 3, RD, 0}, {Scene.REC2, 3, RD, 1},
      {Scene.ROOT, 4, RD, 0}, {Scene.T1, 4, RD, 1}, {Scene.T2, 4, RD, 2}, {Scene.T3, 4, RD, 3}, {Scene.DATA, 5, RD, 5},
      {Scene.RD2, 2, Scene.RD2, -1}, {Scene.ROOT2, 4, Scene.RD2, 0}, {Scene.REC3, 3, Scene.RD2, 0},
      {Scene.SIZE - 1, 0, -1, -1}
    };
    for (int[] w : want) {
      Edge.test(quote, "GRANULE " + w[0], () -> Scene.crowd().tells(w[1], "granule", w[0], 0)
          .tells(w[2], "granule", w[0], 1));
      Edge.tells("2 an RTT's LEVEL, a REC's number, a DATA's PAGE (else NONE)", "GRANULE " + w[0], Scene::crowd, w[3],
          "granule", w[0], 2);
      for (int what : new int[] {-1, 3, Edge.MIN, Edge.MAX}) {
        Edge.tells(NONE_SUCH, "GRANULE " + w[0] + ", what " + what, Scene::crowd, -1, "granule", w[0], what);
      }
    }
    for (int g : Edge.NO_GRANULES) {
      for (int what = 0; what < 3; what++) {
        Edge.tells(NONE_SUCH, "GRANULE " + g + ", what " + what, Scene::crowd, -1, "granule", g, what);
      }
    }
    Edge.test(quote, "one that a PAGE is mapped to is of no REALM", () -> Scene.crowd().with("map", RD, 2048, HOST)
        .tells(-1, "granule", HOST, 1).tells(-1, "granule", HOST, 2));
    Edge.test("a DATA's PAGE (else NONE)", "PAGE 0 and PAGE 2047", () -> Scene.ends().with("unknown", RD, FREE, 0)
        .with("unknown", RD, 21, 2047).tells(0, "granule", FREE, 2).tells(2047, "granule", 21, 2));
    Edge.test("a DATA's PAGE (else NONE)", "none of those that ended", () -> Scene.furnished().with("undata", RD, 5)
        .with("end", REC).with("untable", RD, 0, 3).tells(-1, "granule", Scene.DATA, 2).tells(-1, "granule", REC, 2)
        .tells(-1, "granule", Scene.T3, 2).tells(-1, "granule", Scene.DATA, 1).tells(-1, "granule", REC, 1)
        .tells(-1, "granule", Scene.T3, 1));
  }

  private static void realm() {
    String quote = "Of a REALM: 0 NEW, 1 ACTIVE, 2 OFF; what 1 its root RTT, 2 RECS that it has, 3 RTTS, the root too";
    int[] first = {1, Scene.ROOT, 3, 7, 1, 2, 3};
    int[] second = {1, Scene.ROOT2, 1, 1, 0, 0, 1};
    for (int what = 0; what < 7; what++) {
      Edge.tells(quote, "what " + what, Scene::crowd, first[what], "realm", RD, what);
      Edge.tells(quote, "of the second, what " + what, Scene::crowd, second[what], "realm", Scene.RD2, what);
    }
    int[] bare = {0, Scene.ROOT, 0, 1, 0, 0, 0};
    for (int what = 0; what < 7; what++) {
      Edge.tells(quote, "of one without anything, what " + what, Scene::created, bare[what], "realm", RD, what);
    }
    Edge.test("2 RECS that it has", "one less as one ends, and as many that came", () -> Scene.crowd().with("end", REC)
        .tells(2, "realm", RD, 2).tells(3, "realm", RD, 6));
    Edge.test("3 RTTS, the root too", "one less by untable(), and by fold()", () -> Scene.tabled()
        .with("untable", RD, 0, 3).tells(6, "realm", RD, 3).with("fold", RD, 2048, 3).tells(5, "realm", RD, 3));
    Edge.test("4 DATA that it has", "one more, one less", () -> Scene.furnished().with("unknown", RD, FREE, 0)
        .tells(2, "realm", RD, 4).with("undata", RD, 5).tells(1, "realm", RD, 4).with("map", RD, 2048, HOST)
        .tells(1, "realm", RD, 4));
    Edge.test("5 PAGES that are RAM", "none, and all", () -> Scene.created().tells(0, "realm", RD, 5)
        .with("ripas", RD, 0).tells(512, "realm", RD, 5).with("ripas", RD, 512).with("ripas", RD, 1024)
        .with("ripas", RD, 1536).tells(2048, "realm", RD, 5));
    Edge.test("5 PAGES that are RAM", "of all LEVELS, those of a TABLE once", () -> Scene.reaching()
        .tells(2 + 8 + 64 + 512, "realm", RD, 5));
    Edge.test("5 PAGES that are RAM", "not those of an RTT that ended, whatever its GRANULE is now", () -> {
      Hall h = Scene.tabled();
      for (int page = 0; page < 8; page++) {
        h.with("ripas", RD, page);
      }
      h.with("fold", RD, 0, 3).tells(8, "realm", RD, 5).with("rec", Scene.T3, RD, Scene.PARAMS);
      h.tells(8, "realm", RD, 5);
    });
    String none = "NONE for others, or if there is none such (what 0 tells how it is).";
    for (int what : new int[] {-1, 7, Edge.MIN, Edge.MAX}) {
      Edge.tells(none, "what " + what, Scene::crowd, -1, "realm", RD, what);
    }
    for (int g : new int[] {-1, Scene.SIZE, Edge.MIN, Edge.MAX, HOST, FREE, REC, Scene.ROOT, Scene.DATA}) {
      for (int what = 0; what < 7; what++) {
        Edge.tells(none, "of " + g + ", what " + what, Scene::crowd, -1, "realm", g, what);
      }
    }
    Edge.test(none, "one that ended", () -> Scene.created().with("destroy", RD).tells(-1, "realm", RD, 0)
        .tells(-1, "realm", RD, 3));
  }

  private static void walk() {
    String quote =
        "0 the LEVEL where it ends, 1 the ENTRY there (0, 1, 2), 2 its RIPAS, 3 its GRANULE (NONE of UNASSIGNED)";
    int[][] want = {
      {5, 0, 0, 2, 0, Scene.T1}, {5, 1, 1, 2, 0, Scene.T2}, {5, 2, 2, 2, 0, Scene.T3}, {5, 3, 3, 1, 1, Scene.DATA},
      {6, 3, 3, 0, 1, -1}, {0, 3, 3, 0, 0, -1}, {7, 3, 3, 0, 0, -1}, {8, 3, 2, 0, 0, -1}, {63, 3, 2, 0, 0, -1},
      {64, 3, 1, 0, 0, -1}, {511, 3, 1, 0, 0, -1}, {512, 3, 0, 0, 0, -1}, {2047, 3, 0, 0, 0, -1},
      {2048, 0, 0, 2, 0, Scene.U1}, {2048, 3, 3, 1, 0, HOST}, {2055, 3, 3, 0, 0, -1}, {2056, 3, 2, 0, 0, -1},
      {4095, 0, 0, 0, 0, -1}, {4095, 3, 0, 0, 0, -1}
    };
    for (int[] w : want) {
      Edge.test(quote, "of PAGE " + w[0] + " to LEVEL " + w[1], () -> {
        Hall h = Scene.crowd().with("map", RD, 2048, HOST);
        for (int what = 0; what < 4; what++) {
          h.tells(w[2 + what], "walk", RD, w[0], w[1], what);
        }
      });
    }
    Edge.tells(quote, "RIPAS 2", () -> Scene.crowd().with("undata", RD, 5), 2, "walk", RD, 5, 3, 2);
    for (int what = 0; what < 4; what++) {
      for (int g : new int[] {-1, Scene.SIZE, Edge.MIN, Edge.MAX, HOST, FREE, REC, Scene.ROOT, Scene.DATA}) {
        Edge.tells(NONE_SUCH, "of " + g + ", what " + what, Scene::crowd, -1, "walk", g, 5, 3, what);
      }
      for (int page : Edge.NO_PAGES) {
        Edge.tells(NONE_SUCH, "PAGE " + page + ", what " + what, Scene::crowd, -1, "walk", RD, page, 3, what);
      }
      for (int level : new int[] {-1, 4, Edge.MIN, Edge.MAX}) {
        Edge.tells(NONE_SUCH, "LEVEL " + level + ", what " + what, Scene::crowd, -1, "walk", RD, 5, level, what);
      }
    }
    for (int what : new int[] {-1, 4, Edge.MIN, Edge.MAX}) {
      Edge.tells(NONE_SUCH, "what " + what, Scene::crowd, -1, "walk", RD, 5, 3, what);
    }
  }

  private static void context() {
    String quote = "0 .. 7 registers, 8 whether it is RUNNABLE (1), 9 whether it is RUNNING, 10 PENDING";
    int[] running = {100, 101, 102, 103, 104, 105, 106, 107, 1, 1, 0, -1, -1, 1};
    for (int what = 0; what < 14; what++) {
      Edge.tells(quote, "RUNNING, what " + what, Scene::running, running[what], "context", REC, what);
    }
    Edge.tells(quote, "not RUNNABLE", Scene::crowd, 0, "context", Scene.IDLE, 8);
    Edge.tells(quote, "READY", Scene::active, 0, "context", REC, 9);
    Edge.tells(quote, "READY as another is RUNNING", () -> Scene.crowd().with("enter", REC, RUN), 0, "context",
        Scene.REC2, 9);
    String change = "11 NEXT, to of a CHANGE 12 (else NONE)";
    Edge.test(change, "a CHANGE", () -> Scene.running().with("ask", 0, 2048, 1).tells(2, "context", REC, 10)
        .tells(0, "context", REC, 11).tells(2048, "context", REC, 12));
    Edge.test(change, "a CHANGE at its end", () -> Scene.running().with("ask", 1536, 2048, 1).with("change", REC)
        .tells(2, "context", REC, 10).tells(2048, "context", REC, 11).tells(2048, "context", REC, 12));
    Edge.test(change, "a CALL", () -> Scene.running().with("call", 5).tells(1, "context", REC, 10)
        .tells(-1, "context", REC, 11).tells(-1, "context", REC, 12));
    Edge.test(change, "a CALL after a CHANGE", () -> Scene.running().with("ask", 3, 9, 1).with("enter", REC, RUN)
        .with("call", 5).tells(1, "context", REC, 10).tells(-1, "context", REC, 11).tells(-1, "context", REC, 12));
    Edge.test("13 how often it was entered", "never, once, and not by a refused call", () -> Scene.active()
        .tells(0, "context", REC, 13).with("enter", REC, RUN).tells(1, "context", REC, 13)
        .refused(4, "enter", REC, RUN).tells(1, "context", REC, 13));
    for (int what : new int[] {-1, 14, Edge.MIN, Edge.MAX}) {
      Edge.tells(NONE_SUCH, "what " + what, Scene::running, -1, "context", REC, what);
    }
    for (int g : new int[] {-1, Scene.SIZE, Edge.MIN, Edge.MAX, HOST, FREE, RD, Scene.ROOT, Scene.DATA}) {
      for (int what : new int[] {0, 7, 8, 9, 10, 11, 12, 13}) {
        Edge.tells(NONE_SUCH, "of " + g + ", what " + what, Scene::running, -1, "context", g, what);
      }
    }
    Edge.test(NONE_SUCH, "one that ended", () -> Scene.active().with("end", REC).tells(-1, "context", REC, 0)
        .tells(-1, "context", REC, 8).tells(-1, "context", REC, 13));
    Edge.tells("(The host could not ask this; it is told for comparing.)", "of a RUNNING REC", Scene::running, 100,
        "context", REC, 0);
  }

  private static void measured() {
    String quote = "Word k of MEASUREMENT i of a REALM; 0 if there is none such.";
    for (int k = 0; k < 8; k++) {
      Edge.tells(quote, "word " + k, Scene::created, Sha.of(1, Scene.SIZE)[k], "measured", RD, 0, k);
    }
    for (int g : new int[] {-1, Scene.SIZE, Edge.MIN, Edge.MAX, HOST, FREE, REC, Scene.ROOT, Scene.DATA}) {
      Edge.tells(quote, "of " + g, Scene::crowd, 0, "measured", g, 0, 0);
    }
    for (int i : new int[] {-1, 5, Edge.MIN, Edge.MAX}) {
      Edge.tells(quote, "MEASUREMENT " + i, Scene::crowd, 0, "measured", RD, i, 0);
    }
    for (int k : new int[] {-1, 8, Edge.MIN, Edge.MAX}) {
      Edge.tells(quote, "word " + k, Scene::crowd, 0, "measured", RD, 0, k);
    }
    Edge.test(quote, "of a REALM that ended", () -> Scene.created().with("destroy", RD).tells(0, "measured", RD, 0, 0));
  }

  private static void count() {
    String quote = "0 GRANULES, 1 .. 6 those of STATE 0 .. 5, 7 the RUNNING REC (NONE), 8 REALMS, 9 EXITS, 10 FAULTS.";
    int[] want = {48, 24, 9, 2, 4, 8, 1, -1, 2, 0, 0};
    for (int what = 0; what < want.length; what++) {
      Edge.tells(quote, "what " + what, Scene::crowd, want[what], "count", what);
    }
    int[] fresh = {16, 16, 0, 0, 0, 0, 0, -1, 0, 0, 0};
    for (int what = 0; what < fresh.length; what++) {
      Edge.tells(quote, "of a new object, what " + what, () -> new Hall(16), fresh[what], "count", what);
    }
    Edge.test(quote, "the RUNNING REC is GRANULE 0", () -> new Hall(16).with("delegate", 0).with("delegate", 1)
        .with("delegate", 2).with("create", 1, 2).with("store", 5, 8, 1).with("rec", 0, 1, 5).with("activate", 1)
        .tells(-1, "count", 7).with("enter", 0, 6).tells(0, "count", 7).with("yield1").tells(-1, "count", 7));
    Edge.test(quote, "EXITS of every REASON", () -> {
      Hall h = Scene.running().done(2, "yield1").tells(1, "count", 9).with("enter", REC, RUN);
      h.done(2, "call", 5).tells(2, "count", 9).with("enter", REC, RUN);
      h.done(2, "ask", 0, 1, 1).tells(3, "count", 9).with("enter", REC, RUN);
      h.done(2, "fetch", 0, 6, 0).tells(4, "count", 9).with("enter", REC, RUN);
      h.done(2, "off").tells(5, "count", 9).tells(0, "count", 10);
    });
    Edge.test(quote, "an EXIT counts though RUN is taken away", () -> Scene.running().with("delegate", RUN)
        .done(2, "yield1").tells(1, "count", 9));
    Edge.test(quote, "FAULTS of every act", () -> {
      Hall h = Scene.running().done(1, "move", 8, 0).done(1, "fetch", 0, 4, 0).done(1, "put", 0, 4, 0);
      h.done(1, "state", 2048).done(1, "ask", 1, 1, 1).done(1, "call", 4).done(1, "measure", 5).done(1, "extend", 0);
      h.done(1, "attest", 4).tells(9, "count", 10).tells(0, "count", 9);
    });
    Edge.test(quote, "a refused call is no FAULT", () -> Scene.active().refused(4, "move", 8, 1).tells(0, "count", 10));
    for (int what : new int[] {-1, 11, Edge.MIN, Edge.MAX}) {
      Edge.tells("NONE for others.", "what " + what, Scene::crowd, -1, "count", what);
    }
  }

  private static void status() {
    Edge.tells("STATUS.", "of a new object", () -> new Hall(16), 0, "status");
    Edge.test("STATUS.", "1, 2, 3, 4, 5, and 0", () -> {
      Hall h = Scene.active();
      h.ask("delegate", -1);
      h.tells(1, "status").tells(1, "status").ask("delegate", RD);
      h.tells(2, "status").ask("activate", RD);
      h.tells(3, "status").ask("yield1");
      h.tells(4, "status").ask("undata", RD, 0);
      h.tells(5, "status").ask("store", HOST, 0, 0);
      h.tells(0, "status");
    });
  }

  private static void astray() {
    String quote = "GRANULES of STATE RTT, DATA, REC that are not just once in a TABLE, at a PROTECTED PAGE, or a REC";
    Edge.tells("(0.)", "of a new object", () -> new Hall(96), 0, "astray");
    Edge.tells("(0.)", "of two REALMS", Scene::crowd, 0, "astray");
    Edge.tells("(0.)", "while a REC is RUNNING", Scene::reaching, 0, "astray");
    Edge.tells("(0.)", "of a REALM that is OFF", Scene::off, 0, "astray");
    Edge.test(quote, "an RTT, DATA and a REC that are mapped too, twice", () -> {
      Hall h = Scene.furnished();
      int page = 2048;
      for (int g : new int[] {Scene.T3, Scene.T3, Scene.DATA, Scene.DATA, REC, REC, FREE, HOST}) {
        h.with("map", RD, page++, g);
      }
      h.tells(0, "astray");
    });
    Edge.test("UNASSIGNED and DELEGATED ones that a PROTECTED ENTRY is ASSIGNED to", "DATA that ended", () ->
        Scene.furnished().with("undata", RD, 5).tells(0, "astray").with("undelegate", Scene.DATA).tells(0, "astray"));
    Edge.test("REALMS that have not as many RECS, RTTS, DATA as are theirs", "as they come and go", () -> Scene.crowd()
        .with("end", REC).tells(0, "astray").with("end", Scene.REC3).tells(0, "astray").with("undata", RD, 5)
        .tells(0, "astray").with("untable", RD, 0, 3).tells(0, "astray").with("fold", RD, 2048, 3).tells(0, "astray")
        .with("destroy", Scene.RD2).tells(0, "astray"));
  }
}
