import java.util.function.Supplier;

/** The edges of promises 1 to 10: a new object, the host's WORDS and GRANULES, REALMS and RECS. */
final class HostEdgesTest {
  private static final int RD = Scene.RD;
  private static final int ROOT = Scene.ROOT;
  private static final int REC = Scene.REC;
  private static final int FREE = Scene.FREE;
  private static final int FREE2 = Scene.FREE2;
  private static final int HOST = Scene.HOST;
  private static final int PARAMS = Scene.PARAMS;
  private static final int RUN = Scene.RUN;
  private static final int UNDELEGATED = 0;
  private static final int DELEGATED = 1;
  private static final int IS_RD = 2;
  private static final int IS_REC = 3;

  public static void main(String[] args) {
    cases();
    Edge.run("HostEdgesTest");
  }

  static void cases() {
    Edge.section(1);
    newObject();
    Edge.section(2);
    load();
    Edge.section(3);
    store();
    Edge.section(4);
    delegate();
    Edge.section(5);
    undelegate();
    Edge.section(6);
    create();
    Edge.section(7);
    activate();
    Edge.section(8);
    destroy();
    Edge.section(9);
    rec();
    recRefused();
    Edge.section(10);
    end();
  }

  private static void newObject() {
    String quote = "So many GRANULES (16 .. 96; others: 32), all UNDELEGATED, 0.";
    int[][] sizes = {
      {16, 16}, {17, 17}, {32, 32}, {95, 95}, {96, 96}, {15, 32}, {97, 32}, {1, 32}, {0, 32}, {-1, 32}, {-16, 32},
      {-96, 32}, {Edge.MIN, 32}, {Edge.MAX, 32}
    };
    for (int[] size : sizes) {
      int n = size[1];
      Supplier<Hall> hall = () -> new Hall(size[0]);
      Edge.tells(quote, size[0] + ": how many", hall, n, "count", 0);
      Edge.tells(quote, size[0] + ": UNDELEGATED", hall, n, "count", 1);
      Edge.tells(quote, size[0] + ": the last", hall, 0, "granule", n - 1, 0);
      Edge.tells(quote, size[0] + ": behind the last", hall, -1, "granule", n, 0);
      Edge.test(quote, size[0] + ": a new object has nothing else", () -> {
        Hall h = hall.get();
        h.tells(0, "status").tells(-1, "count", 7).tells(0, "count", 8).tells(0, "count", 9).tells(0, "count", 10);
        h.tells(0, "astray");
      });
    }
    for (int from = 0; from < 96; from += 15) {
      int first = from;
      Edge.test(quote, "96: all WORDS are 0, from " + first, () -> {
        Hall h = new Hall(96);
        for (int g = first; g < first + 15 && g < 96; g++) {
          for (int word = 0; word < 32; word++) {
            Due.is("load(" + g + ", " + word + ")", 0, h.ask("load", g, word));
          }
        }
      });
    }
  }

  private static void load() {
    String quote = "A WORD of an UNDELEGATED GRANULE.";
    Edge.done(quote, "the first of the first", () -> new Hall(16).with("store", 0, 0, 7), 7, "load", 0, 0);
    Edge.done(quote, "the last of the last", () -> new Hall(16).with("store", 15, 31, 7), 7, "load", 15, 31);
    Edge.done(quote, "-1 is no refusal", () -> new Hall(16).with("store", 3, 3, -1), -1, "load", 3, 3);
    Edge.done(quote, "UNDELEGATED again", () -> Scene.delegated().with("undelegate", FREE), 0, "load", FREE, 0);
    String refused = "1 (word not 0 .. 31), 2.";
    Edge.outOfBounds(refused, Scene::furnished, Edge.NO_WORDS, "load", 1, HOST, 0);
    Edge.noGranule(refused, Scene::furnished, "load", 0, HOST, 0);
    Edge.otherStates(refused, Scene::furnished, UNDELEGATED, "load", 0, HOST, 0);
  }

  private static void store() {
    String quote = "It becomes v.";
    for (int v : new int[] {0, 1, -1, Edge.MIN, Edge.MAX}) {
      Edge.test(quote, "v is " + v, () -> new Hall(16).with("store", 0, 1, 5).yes("store", 0, 1, v)
          .done(v, "load", 0, 1));
    }
    Edge.test(quote, "the WORDS beside it stay, and the GRANULES", () -> new Hall(16).yes("store", 7, 8, 5)
        .done(0, "load", 7, 7).done(0, "load", 7, 9).done(0, "load", 6, 8).done(0, "load", 8, 8));
    String refused = "1, 2.";
    Edge.outOfBounds(refused, Scene::furnished, Edge.NO_WORDS, "store", 1, HOST, 0, 9);
    Edge.noGranule(refused, Scene::furnished, "store", 0, HOST, 0, 9);
    Edge.otherStates(refused, Scene::running, UNDELEGATED, "store", 0, HOST, 0, 9);
  }

  private static void delegate() {
    String quote = "An UNDELEGATED GRANULE becomes DELEGATED.";
    for (int g : new int[] {0, 15}) {
      Edge.test(quote, "GRANULE " + g + " of 16", () -> new Hall(16).yes("delegate", g).tells(1, "granule", g, 0)
          .tells(15, "count", 1).tells(1, "count", 2));
    }
    Edge.test(quote, "all of them", () -> {
      Hall h = new Hall(96);
      for (int g = 0; g < 96; g++) {
        h.yes("delegate", g);
      }
      h.tells(0, "count", 1).tells(96, "count", 2).refused(2, "delegate", 95);
    });
    Edge.noGranule("1, 2.", Scene::furnished, "delegate", 0, HOST);
    Edge.otherStates("1, 2.", Scene::running, UNDELEGATED, "delegate", 0, HOST);
  }

  private static void undelegate() {
    String quote = "A DELEGATED one becomes UNDELEGATED.";
    for (int g : new int[] {0, 15}) {
      Edge.test(quote, "GRANULE " + g + " of 16", () -> new Hall(16).with("delegate", g).yes("undelegate", g)
          .tells(0, "granule", g, 0).tells(16, "count", 1).yes("store", g, 0, 1));
    }
    Edge.test(quote, "one that a REALM had", () -> Scene.created().with("destroy", RD).yes("undelegate", RD)
        .yes("undelegate", ROOT).tells(-1, "granule", RD, 1).tells(-1, "granule", ROOT, 2));
    Edge.noGranule("1, 2.", Scene::furnished, "undelegate", 0, FREE);
    Edge.otherStates("1, 2.", Scene::running, DELEGATED, "undelegate", 0, FREE);
  }

  private static void create() {
    String quote = "A REALM, NEW: rd and rtt, DELEGATED ones, become its RD and root RTT (UNASSIGNED, EMPTY all).";
    Edge.test(quote, "the first and the last GRANULE", () -> new Hall(16).with("delegate", 0).with("delegate", 15)
        .yes("create", 15, 0).tells(0, "realm", 15, 0).tells(0, "realm", 15, 1).tells(2, "granule", 15, 0)
        .tells(4, "granule", 0, 0));
    for (int first = 0; first < 4096; first += 512) {
      int page = first;
      Edge.test(quote, "the root's ENTRY of PAGE " + page, () -> {
        Hall h = Scene.created();
        for (int p : new int[] {page, page + 511}) {
          h.tells(0, "walk", RD, p, 3, 0).tells(0, "walk", RD, p, 3, 1).tells(0, "walk", RD, p, 3, 2);
          h.tells(-1, "walk", RD, p, 3, 3);
        }
      });
    }
    Edge.test(quote, "where a REALM with RAM and a DESTROYED ENTRY was", () -> {
      Hall h = Scene.created().with("ripas", RD, 0).with("table", RD, FREE, 512, 1).with("untable", RD, 512, 1);
      h.with("activate", RD).with("destroy", RD).yes("create", RD, ROOT);
      h.tells(0, "realm", RD, 0).tells(0, "realm", RD, 5).tells(0, "walk", RD, 0, 3, 2).tells(0, "walk", RD, 512, 3, 2);
    });
    Edge.test(quote, "as many as there is room for", () -> {
      Hall h = new Hall(16);
      for (int g = 0; g < 16; g++) {
        h.with("delegate", g);
      }
      for (int g = 0; g < 16; g += 2) {
        h.yes("create", g, g + 1);
      }
      h.tells(8, "count", 8).tells(8, "count", 3).tells(8, "count", 5).tells(0, "count", 2);
      h.refused(2, "create", 0, 1).tells(0, "astray");
    });
    String refused = "1 (also: the same twice), 2.";
    Edge.noGranule(refused, Scene::furnished, "create", 0, FREE, FREE2);
    Edge.noGranule(refused, Scene::furnished, "create", 1, FREE, FREE2);
    Edge.refused(refused, "the same twice, DELEGATED", Scene::furnished, 1, "create", FREE, FREE);
    Edge.refused(refused, "the same twice, UNDELEGATED", Scene::furnished, 1, "create", HOST, HOST);
    Edge.refused(refused, "the same twice, an RD", Scene::furnished, 1, "create", RD, RD);
    Edge.refused(refused, "the same twice, none such", Scene::furnished, 1, "create", -1, -1);
    Edge.otherStates(refused, Scene::furnished, DELEGATED, "create", 0, FREE, FREE2);
    Edge.otherStates(refused, Scene::furnished, DELEGATED, "create", 1, FREE, FREE2);
  }

  private static void activate() {
    Edge.test("A NEW REALM becomes ACTIVE.", "one without anything", () -> Scene.created().yes("activate", RD)
        .tells(1, "realm", RD, 0));
    Edge.test("A NEW REALM becomes ACTIVE.", "another stays NEW", () -> Scene.created()
        .with("create", Scene.RD2, Scene.ROOT2).yes("activate", RD).tells(0, "realm", Scene.RD2, 0));
    Edge.noGranule("1, 2, 3.", Scene::furnished, "activate", 0, RD);
    Edge.otherStates("1, 2, 3.", Scene::furnished, IS_RD, "activate", 0, RD);
    Edge.refused("1, 2, 3.", "a root RTT", Scene::furnished, 2, "activate", ROOT);
    Edge.refused("1, 2, 3.", "ACTIVE", Scene::active, 3, "activate", RD);
    Edge.refused("1, 2, 3.", "OFF", Scene::off, 3, "activate", RD);
  }

  private static Hall emptyOff() {
    Hall h = Scene.created().with("store", PARAMS, 8, 1).with("rec", REC, RD, PARAMS).with("activate", RD);
    return h.with("enter", REC, RUN).with("off").with("end", REC);
  }

  private static void destroy() {
    String quote = "A REALM ends: its RD and root RTT become DELEGATED.";
    Edge.test(quote, "a NEW one", () -> Scene.created().yes("destroy", RD).tells(1, "granule", RD, 0)
        .tells(1, "granule", ROOT, 0).tells(-1, "realm", RD, 0).tells(0, "count", 8).tells(0, "measured", RD, 0, 0));
    Edge.yes(quote, "an ACTIVE one", () -> Scene.created().with("activate", RD), "destroy", RD);
    Edge.yes(quote, "one that is OFF", HostEdgesTest::emptyOff, "destroy", RD);
    Edge.yes(quote, "RAM is UNASSIGNED", () -> Scene.created().with("ripas", RD, 0), "destroy", RD);
    Edge.yes(quote, "all that is PROTECTED is RAM", () -> Scene.created().with("ripas", RD, 0).with("ripas", RD, 512)
        .with("ripas", RD, 1024).with("ripas", RD, 1536), "destroy", RD);
    Edge.yes(quote, "DESTROYED is UNASSIGNED", () -> Scene.created().with("table", RD, FREE, 0, 1)
        .with("untable", RD, 0, 1), "destroy", RD);
    Edge.test(quote, "another stays", () -> Scene.created().with("create", Scene.RD2, Scene.ROOT2).yes("destroy", RD)
        .tells(0, "realm", Scene.RD2, 0).tells(1, "count", 8).tells(4, "granule", Scene.ROOT2, 0));
    Edge.test(quote, "a new one there begins anew", () -> emptyOff().with("destroy", RD).with("create", RD, ROOT)
        .tells(0, "realm", RD, 0).tells(0, "realm", RD, 2).tells(1, "realm", RD, 3).tells(0, "realm", RD, 6));
    String refused = "1, 2; 3: it has a REC, or an ENTRY of its root is not UNASSIGNED.";
    Edge.noGranule(refused, Scene::created, "destroy", 0, RD);
    Edge.otherStates(refused, Scene::furnished, IS_RD, "destroy", 0, RD);
    Edge.refused(refused, "a root RTT", Scene::created, 2, "destroy", ROOT);
    Edge.refused(refused, "a REC", () -> Scene.created().with("rec", REC, RD, PARAMS), 3, "destroy", RD);
    Edge.refused(refused, "a REC of two", () -> Scene.created().with("rec", REC, RD, PARAMS)
        .with("rec", Scene.REC2, RD, PARAMS).with("end", REC), 3, "destroy", RD);
    Edge.refused(refused, "a RUNNING REC", () -> Scene.created().with("store", PARAMS, 8, 1)
        .with("rec", REC, RD, PARAMS).with("activate", RD).with("enter", REC, RUN), 3, "destroy", RD);
    for (int page = 0; page < 4096; page += 512) {
      int first = page;
      Edge.refused(refused, "a TABLE at PAGE " + first, () -> Scene.created().with("table", RD, FREE, first, 1), 3,
          "destroy", RD);
    }
    Edge.refused(refused, "both", Scene::active, 3, "destroy", RD);
    Edge.refused(refused, "destroyed already", () -> Scene.created().with("destroy", RD), 2, "destroy", RD);
  }

  private static void rec() {
    String quote = "X0 .. X7 are WORDS 0 .. 7 of params, UNDELEGATED, it is RUNNABLE if word 8 is not 0.";
    Edge.test(quote, "words 0, 7 and 8", () -> Scene.created().with("store", PARAMS, 0, Edge.MIN)
        .with("store", PARAMS, 7, Edge.MAX).with("store", PARAMS, 8, 5).done(0, "rec", REC, RD, PARAMS)
        .tells(Edge.MIN, "context", REC, 0).tells(0, "context", REC, 1).tells(Edge.MAX, "context", REC, 7));
    int[][] words8 = {{0, 0}, {1, 1}, {2, 1}, {-1, 1}, {Edge.MIN, 1}, {Edge.MAX, 1}};
    for (int[] w : words8) {
      Edge.test(quote, "word 8 is " + w[0], () -> Scene.created().with("store", PARAMS, 8, w[0])
          .done(0, "rec", REC, RD, PARAMS).tells(w[1], "context", REC, 8));
    }
    Edge.test(quote, "words 7 and 9 do not make it RUNNABLE", () -> Scene.created().with("store", PARAMS, 7, 1)
        .with("store", PARAMS, 9, 1).done(0, "rec", REC, RD, PARAMS).tells(0, "context", REC, 8));
    Edge.test(quote, "params stays, and is its own", () -> Scene.created().with("store", PARAMS, 0, 7)
        .with("rec", REC, RD, PARAMS).done(7, "load", PARAMS, 0).with("store", PARAMS, 0, 8)
        .tells(7, "context", REC, 0).tells(0, "granule", PARAMS, 0));
    String becomes = "A REC of a NEW REALM: rec, DELEGATED, becomes it";
    Edge.test(becomes, "READY, with nothing PENDING", () -> Scene.created().done(0, "rec", REC, RD, PARAMS)
        .tells(3, "granule", REC, 0).tells(RD, "granule", REC, 1).tells(0, "context", REC, 9)
        .tells(0, "context", REC, 10).tells(-1, "context", REC, 11).tells(-1, "context", REC, 12)
        .tells(0, "context", REC, 13).tells(-1, "count", 7));
    Edge.test(becomes, "nothing is left of one that was there", () -> Scene.created().with("store", PARAMS, 8, 1)
        .with("rec", REC, RD, PARAMS).with("activate", RD).with("enter", REC, RUN).with("move", 3, 9)
        .with("ask", 0, 8, 1).with("end", REC).with("create", Scene.RD2, Scene.ROOT2)
        .done(0, "rec", REC, Scene.RD2, PARAMS).tells(0, "context", REC, 3).tells(0, "context", REC, 10).tells(0, "context", REC, 13));
    Edge.test("Its number.", "as many as there is room for", () -> {
      Hall h = new Hall(16);
      for (int g = 0; g < 15; g++) {
        h.with("delegate", g);
      }
      h.with("create", 0, 1);
      for (int g = 2; g < 15; g++) {
        h.done(g - 2, "rec", g, 0, 15).tells(g - 2, "granule", g, 2);
      }
      h.tells(13, "realm", 0, 2).refused(2, "rec", 15, 0, 15).refused(2, "rec", 14, 0, 15);
    });
    Edge.test("Its number.", "a number is given once", () -> Scene.created().done(0, "rec", REC, RD, PARAMS)
        .with("end", REC).done(1, "rec", REC, RD, PARAMS).tells(1, "granule", REC, 2));
  }

  private static void recRefused() {
    String quote = "1; 2 (rd, rec, params: any); 3; the RIM is EXTENDED.";
    for (int place = 0; place < 3; place++) {
      Edge.noGranule(quote, Scene::furnished, "rec", place, FREE, RD, PARAMS);
    }
    Edge.otherStates(quote, Scene::furnished, DELEGATED, "rec", 0, FREE, RD, PARAMS);
    Edge.otherStates(quote, Scene::furnished, IS_RD, "rec", 1, FREE, RD, PARAMS);
    Edge.otherStates(quote, Scene::furnished, UNDELEGATED, "rec", 2, FREE, RD, PARAMS);
    Edge.refused(quote, "rec is params, DELEGATED", Scene::furnished, 2, "rec", FREE, RD, FREE);
    Edge.refused(quote, "rec is params, UNDELEGATED", Scene::furnished, 2, "rec", HOST, RD, HOST);
    Edge.refused(quote, "all are the RD", Scene::furnished, 2, "rec", RD, RD, RD);
    Edge.refused(quote, "ACTIVE", Scene::active, 3, "rec", FREE, RD, PARAMS);
    Edge.refused(quote, "OFF", Scene::off, 3, "rec", FREE, RD, PARAMS);
    Edge.test(quote, "the RIM is another by each", () -> {
      Hall h = Scene.created();
      int before = h.ask("measured", RD, 0, 0);
      h.done(0, "rec", REC, RD, PARAMS);
      int[] rim = Sha.extended(Sha.of(1, Scene.SIZE), Sha.words(4, 0, 0), new int[8]);
      h.tells(rim[0], "measured", RD, 0, 0).tells(rim[7], "measured", RD, 0, 7);
      Due.no("the RIM stays", rim[0] == before);
    });
  }

  private static void end() {
    String quote = "A REC becomes DELEGATED.";
    Edge.test(quote, "READY", () -> Scene.active().yes("end", REC).tells(1, "granule", REC, 0)
        .tells(-1, "granule", REC, 1).tells(-1, "granule", REC, 2).tells(-1, "context", REC, 0)
        .tells(0, "realm", RD, 2).tells(1, "realm", RD, 6));
    Edge.test(quote, "of a NEW REALM", () -> Scene.furnished().yes("end", REC).tells(0, "realm", RD, 2));
    Edge.test(quote, "of a REALM that is OFF", () -> Scene.off().yes("end", REC).tells(0, "realm", RD, 2));
    Edge.test(quote, "with a CHANGE PENDING", () -> Scene.running().with("ask", 0, 1, 1).yes("end", REC)
        .refused(2, "change", REC));
    Edge.test(quote, "with a CALL PENDING", () -> Scene.running().with("call", 5).yes("end", REC)
        .refused(2, "enter", REC, RUN));
    Edge.test(quote, "another while one is RUNNING", () -> Scene.crowd().with("enter", REC, RUN)
        .yes("end", Scene.REC2).yes("end", Scene.REC3).yes("end", Scene.IDLE).tells(REC, "count", 7)
        .tells(1, "realm", RD, 2).tells(0, "realm", Scene.RD2, 2));
    Edge.test("(Numbers of others stay.)", "the first ends, and the second", () -> Scene.crowd().with("end", REC)
        .tells(1, "granule", Scene.REC2, 2).tells(2, "granule", Scene.IDLE, 2).with("end", Scene.REC2)
        .tells(2, "granule", Scene.IDLE, 2).tells(3, "realm", RD, 6).tells(1, "realm", RD, 2));
    String refused = "1, 2; 4: it is RUNNING.";
    Edge.noGranule(refused, Scene::furnished, "end", 0, REC);
    Edge.otherStates(refused, Scene::furnished, IS_REC, "end", 0, REC);
    Edge.refused(refused, "RUNNING", Scene::running, 4, "end", REC);
    Edge.refused(refused, "ended already", () -> Scene.active().with("end", REC), 2, "end", REC);
    Edge.test(refused, "RUNNING, then READY", () -> Scene.running().refused(4, "end", REC).with("yield1")
        .yes("end", REC));
  }
}
