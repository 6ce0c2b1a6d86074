/** The edges of promises 20 and 21: enter, change. */
final class EnterEdgesTest {
  private static final int RD = Scene.RD;
  private static final int REC = Scene.REC;
  private static final int REC2 = Scene.REC2;
  private static final int RUN = Scene.RUN;
  private static final int HOST = Scene.HOST;
  private static final int FREE = Scene.FREE;
  private static final int UNDELEGATED = 0;
  private static final int IS_REC = 3;

  public static void main(String[] args) {
    cases();
    Edge.run("EnterEdgesTest");
  }

  static void cases() {
    Edge.section(20);
    enter();
    enterRefused();
    Edge.section(21);
    change();
    changeRefused();
  }

  private static void enter() {
    String quote = "A REC is entered.";
    Edge.test(quote, "with nothing PENDING its registers stay", () -> {
      Hall h = Scene.active().yes("enter", REC, RUN).tells(1, "context", REC, 9).tells(REC, "count", 7);
      for (int k = 0; k < 8; k++) {
        h.tells(100 + k, "context", REC, k);
      }
      h.tells(1, "context", REC, 13);
    });
    Edge.test(quote, "RUN stays as it is", () -> Scene.active().with("store", RUN, 0, 7).with("store", RUN, 31, 8)
        .yes("enter", REC, RUN).done(7, "load", RUN, 0).done(8, "load", RUN, 31).tells(0, "granule", RUN, 0));
    Edge.test(quote, "how often is counted, of each", () -> Scene.crowd().with("enter", REC, RUN).with("yield1")
        .with("enter", REC, RUN).with("yield1").with("enter", REC2, RUN).tells(2, "context", REC, 13)
        .tells(1, "context", REC2, 13).tells(0, "context", Scene.REC3, 13));
    Edge.test(quote, "with the first GRANULE and with the last", () -> new Hall(16).with("delegate", 1)
        .with("delegate", 2).with("delegate", 3).with("create", 1, 2).with("store", 5, 8, 1).with("rec", 3, 1, 5)
        .with("activate", 1).yes("enter", 3, 0).exits(0, new int[] {1}, "yield1").yes("enter", 3, 15)
        .exits(15, new int[] {1}, "yield1"));
    Edge.yes(quote, "with what were its params", Scene::active, "enter", REC, Scene.PARAMS);
  }

  private static void enterRefused() {
    String quote = "1; 2 (rec, run); 3: its REALM is not ACTIVE; 4: it is not RUNNABLE, or one is RUNNING.";
    Edge.noGranule(quote, Scene::active, "enter", 0, REC, RUN);
    Edge.noGranule(quote, Scene::active, "enter", 1, REC, RUN);
    Edge.otherStates(quote, Scene::active, IS_REC, "enter", 0, REC, RUN);
    Edge.otherStates(quote, Scene::active, UNDELEGATED, "enter", 1, REC, RUN);
    Edge.refused(quote, "NEW", Scene::furnished, 3, "enter", REC, RUN);
    Edge.refused(quote, "OFF", Scene::off, 3, "enter", REC, RUN);
    Edge.refused(quote, "another of the REALM that is OFF", () -> Scene.crowd().with("enter", REC, RUN).with("off"), 3,
        "enter", REC2, RUN);
    Edge.yes(quote, "another REALM is ACTIVE still", () -> Scene.crowd().with("enter", REC, RUN).with("off"), "enter",
        Scene.REC3, RUN);
    Edge.refused(quote, "not RUNNABLE", Scene::crowd, 4, "enter", Scene.IDLE, RUN);
    Edge.refused(quote, "it is RUNNING", Scene::running, 4, "enter", REC, RUN);
    Edge.refused(quote, "another is RUNNING", () -> Scene.crowd().with("enter", REC2, RUN), 4, "enter", REC, HOST);
    Edge.refused(quote, "one of another REALM is RUNNING", () -> Scene.crowd().with("enter", Scene.REC3, RUN), 4,
        "enter", REC, HOST);
    Edge.refused(quote, "not RUNNABLE, and one is RUNNING", () -> Scene.crowd().with("enter", REC, RUN), 4, "enter",
        Scene.IDLE, HOST);
    Edge.refused(quote, "what is PENDING stays", () -> Scene.running().with("ask", 0, 2, 1), 2, "enter", REC, FREE);
    Edge.test(quote, "a CALL stays PENDING while another is RUNNING", () -> Scene.crowd().with("enter", REC, RUN)
        .with("call", 5).with("enter", REC2, RUN).refused(4, "enter", REC, HOST).tells(1, "context", REC, 10));
    Edge.refused(quote, "a REC that ended", () -> Scene.active().with("end", REC), 2, "enter", REC, RUN);
  }

  private static Hall asked(int from, int to, int ripas) {
    return Scene.running().with("ask", from, to, ripas);
  }

  private static void change() {
    String quote = "the LEAF of its NEXT gets the RIPAS; NEXT is what is behind it.";
    Edge.test(quote, "LEVEL 3", () -> asked(3, 5, 1).done(4, "change", REC).tells(1, "walk", RD, 3, 3, 2)
        .tells(0, "walk", RD, 4, 3, 2).tells(4, "context", REC, 11).tells(5, "context", REC, 12));
    Edge.test(quote, "LEVEL 2", () -> asked(8, 16, 1).done(16, "change", REC).tells(1, "walk", RD, 8, 3, 2)
        .tells(1, "walk", RD, 15, 3, 2).tells(0, "walk", RD, 16, 3, 2));
    Edge.test(quote, "LEVEL 1", () -> asked(64, 128, 1).done(128, "change", REC).tells(1, "walk", RD, 127, 3, 2)
        .tells(0, "walk", RD, 128, 3, 2));
    Edge.test(quote, "LEVEL 0, to the end of what is PROTECTED", () -> asked(1536, 2048, 1).done(2048, "change", REC)
        .tells(1, "walk", RD, 2047, 3, 2).tells(0, "walk", RD, 2048, 3, 2).tells(2048, "context", REC, 11)
        .refused(4, "change", REC));
    Edge.test(quote, "LEVEL 3, the last that is PROTECTED", () -> Scene.ends().with("store", Scene.PARAMS, 8, 1)
        .with("rec", REC, RD, Scene.PARAMS).with("activate", RD).with("enter", REC, RUN).with("ask", 2047, 2048, 1)
        .done(2048, "change", REC).tells(1, "walk", RD, 2047, 3, 2).refused(4, "change", REC));
    Edge.test(quote, "all of them, over all LEVELS", () -> {
      Hall h = asked(0, 2048, 1);
      int[] nexts = {
        1, 2, 3, 4, 5, 6, 7, 8, 16, 24, 32, 40, 48, 56, 64, 128, 192, 256, 320, 384, 448, 512, 1024, 1536, 2048
      };
      for (int next : nexts) {
        h.done(next, "change", REC);
      }
      h.tells(2048, "realm", RD, 5).refused(4, "change", REC);
    });
    Edge.test(quote, "an ASSIGNED one to EMPTY, and its GRANULE stays", () -> asked(5, 6, 0).done(6, "change", REC)
        .tells(0, "walk", RD, 5, 3, 2).tells(1, "walk", RD, 5, 3, 1).tells(Scene.DATA, "walk", RD, 5, 3, 3));
    Edge.test(quote, "from DESTROYED to RAM", () -> asked(5, 6, 1).with("undata", RD, 5).done(6, "change", REC)
        .tells(1, "walk", RD, 5, 3, 2));
    Edge.test(quote, "from DESTROYED to EMPTY", () -> asked(5, 6, 0).with("undata", RD, 5).done(6, "change", REC)
        .tells(0, "walk", RD, 5, 3, 2));
    Edge.test(quote, "RAM that is RAM already", () -> asked(5, 6, 1).done(6, "change", REC)
        .tells(1, "walk", RD, 5, 3, 2));
    Edge.test(quote, "of a REALM that is OFF", () -> Scene.crowd().with("enter", REC, RUN).with("ask", 0, 1, 1)
        .with("enter", REC2, RUN).with("off").done(1, "change", REC).tells(1, "walk", RD, 0, 3, 2));
    Edge.test(quote, "while another is RUNNING", () -> Scene.crowd().with("enter", REC, RUN).with("ask", 0, 1, 1)
        .with("enter", REC2, RUN).done(1, "change", REC).tells(REC2, "count", 7));
    Edge.test(quote, "of its own REALM alone", () -> Scene.crowd().with("enter", Scene.REC3, RUN)
        .with("ask", 0, 512, 1).done(512, "change", Scene.REC3).tells(1, "walk", Scene.RD2, 0, 3, 2)
        .tells(0, "walk", RD, 0, 3, 2));
    Edge.test("NEXT.", "it is answered, and told", () -> asked(0, 2, 1).done(1, "change", REC)
        .tells(1, "context", REC, 11).done(2, "change", REC).tells(2, "context", REC, 11));
  }

  private static void changeRefused() {
    String quote =
        "1, 2; 4: no CHANGE is PENDING, or NEXT is to; 5: the ENTRY begins ahead of NEXT, or ends behind to.";
    Edge.noGranule(quote, () -> asked(0, 1, 1), "change", 0, REC);
    Edge.otherStates(quote, () -> asked(0, 1, 1), IS_REC, "change", 0, REC);
    Edge.refused(quote, "nothing is PENDING, never entered", Scene::active, 4, "change", REC);
    Edge.refused(quote, "nothing is PENDING, RUNNING", Scene::running, 4, "change", REC);
    Edge.refused(quote, "a CALL is PENDING", () -> Scene.running().with("call", 5), 4, "change", REC);
    Edge.refused(quote, "after a YIELD", () -> Scene.running().with("yield1"), 4, "change", REC);
    Edge.refused(quote, "entered since", () -> asked(0, 1, 1).with("enter", REC, RUN), 4, "change", REC);
    Edge.refused(quote, "another's CHANGE", () -> Scene.crowd().with("enter", REC2, RUN).with("ask", 0, 1, 1), 4,
        "change", REC);
    Edge.refused(quote, "NEXT is to", () -> asked(0, 1, 1).with("change", REC), 4, "change", REC);
    Edge.refused(quote, "NEXT is to, 2048", () -> asked(1536, 2048, 1).with("change", REC), 4, "change", REC);
    int[][] ahead = {{9, 24}, {15, 16}, {65, 128}, {127, 2048}, {513, 1024}, {2047, 2048}};
    for (int[] a : ahead) {
      Edge.refused(quote, "the ENTRY begins ahead of " + a[0], () -> asked(a[0], a[1], 1), 5, "change", REC);
    }
    int[][] behind = {{8, 15}, {8, 9}, {64, 127}, {64, 72}, {512, 1023}, {1536, 2047}, {1024, 1088}};
    for (int[] b : behind) {
      Edge.refused(quote, "the ENTRY ends behind " + b[1], () -> asked(b[0], b[1], 1), 5, "change", REC);
    }
    Edge.refused(quote, "both", () -> asked(9, 10, 1), 5, "change", REC);
    Edge.refused(quote, "the second ENTRY ends behind to", () -> asked(7, 9, 1).with("change", REC), 5, "change", REC);
    Edge.test(quote, "an RTT makes it go on", () -> asked(9, 10, 1).refused(5, "change", REC)
        .with("table", RD, FREE, 8, 3).done(10, "change", REC));
    Edge.refused(quote, "an RTT that was taken away", () -> asked(1, 8, 1).with("undata", RD, 5)
        .with("untable", RD, 0, 3), 5, "change", REC);
  }
}
