/** The edges of RECS in the document's terms: entering, EXITS, FAULTS, and how a PAGE is REACHED. */
final class RecEdgesTest {
  private static final int RD = Scene.RD;
  private static final int REC = Scene.REC;
  private static final int REC2 = Scene.REC2;
  private static final int RUN = Scene.RUN;
  private static final int HOST = Scene.HOST;
  private static final int FREE = Scene.FREE;
  private static final int[] EMPTY_PAGES = {0, 1, 8, 15, 64, 127, 512, 1023};
  private static final int[] ABORT_PAGES = {2, 4, 5, 16, 23, 24, 31, 128, 191, 192, 1024, 1535, 1536, 2047};
  private static final int[] SHARED_ABORTS = {2049, 2050, 2051, 2052, 2053, 2054, 2055, 2056, 2112, 2560, 4095};

  public static void main(String[] args) {
    cases();
    Edge.run("RecEdgesTest");
  }

  static void cases() {
    Edge.section(Edge.TERMS);
    oneAtATime();
    enteredWithCall();
    enteredWithChange();
    nothingPending();
    exits();
    runTakenAway();
    reasons();
    noneRuns();
    reachProtected();
    reachShared();
    bounds();
  }

  private static void oneAtATime() {
    String quote = "READY or RUNNING (one at a time in all)";
    Edge.test(quote, "the same again", () -> Scene.crowd().with("enter", REC, RUN).refused(4, "enter", REC, HOST));
    Edge.test(quote, "another of the REALM", () -> Scene.crowd().with("enter", REC, RUN)
        .refused(4, "enter", REC2, HOST));
    Edge.test(quote, "one of another REALM", () -> Scene.crowd().with("enter", REC, RUN)
        .refused(4, "enter", Scene.REC3, HOST));
    Edge.test(quote, "another as the first is READY", () -> Scene.crowd().with("enter", REC, RUN).with("yield1")
        .yes("enter", Scene.REC3, RUN).tells(Scene.REC3, "count", 7).tells(0, "context", REC, 9));
    String registers = "A REC has registers X0 .. X7";
    Edge.test(registers, "of its own", () -> Scene.crowd().with("enter", REC, RUN).with("move", 7, -9)
        .tells(-9, "context", REC, 7).tells(107, "context", REC2, 7).tells(107, "context", Scene.REC3, 7));
    Edge.faults(registers, "no X8", Scene::running, "move", 8, 1);
    String pending = "and may have a PENDING: 1 a CALL (a PAGE), 2 a CHANGE (from, to, RIPAS, NEXT)";
    Edge.test(pending, "one each", () -> {
      Hall h = Scene.crowd().with("enter", REC, RUN).with("call", 5).with("enter", REC2, RUN).with("ask", 3, 9, 1);
      h.tells(1, "context", REC, 10).tells(2, "context", REC2, 10).tells(0, "context", Scene.REC3, 10);
      h.tells(-1, "context", REC, 11).tells(3, "context", REC2, 11).tells(9, "context", REC2, 12);
    });
    Edge.test(pending, "a CHANGE of its own each", () -> {
      Hall h = Scene.crowd().with("enter", REC, RUN).with("ask", 0, 2, 1).with("enter", REC2, RUN).with("ask", 3, 5, 1);
      h.done(4, "change", REC2).done(1, "change", REC).tells(4, "context", REC2, 11).tells(1, "context", REC, 11);
    });
  }

  private static Hall called() {
    Hall h = Scene.crowd().with("enter", REC, RUN).with("call", 5);
    for (int i = 0; i < 32; i++) {
      h.with("store", HOST, i, 900 + i);
    }
    return h;
  }

  private static void enteredWithCall() {
    String quote = "a CALL: if its PAGE's LEAF is ASSIGNED, RAM, WORDS 1 .. 8 of RUN go to WORDS 1 .. 8 there";
    Edge.test(quote, "1 and 8 go, 0 and 9 stay", () -> {
      Hall h = called().yes("enter", REC, HOST);
      h.tells(0, "context", REC, 0).tells(101, "context", REC, 1);
      for (int word = 0; word < 32; word++) {
        h.with("fetch", 2, 5, word);
        Due.is("word " + word, word >= 1 && word <= 8 ? 900 + word : 500 + word, h.ask("context", REC, 2));
      }
    });
    Edge.test(quote, "RUN stays", () -> {
      Hall h = called().yes("enter", REC, HOST);
      for (int word = 0; word < 32; word++) {
        h.done(900 + word, "load", HOST, word);
      }
    });
    Edge.test(quote, "of another REC's CALL nothing", () -> {
      Hall h = called().yes("enter", REC2, HOST);
      h.tells(100, "context", REC2, 0).tells(1, "context", REC, 10).with("fetch", 2, 5, 1);
      Due.is("word 1", 501, h.ask("context", REC2, 2));
    });
    String lost = "else X0 becomes 1; a CHANGE";
    Edge.test(lost, "UNASSIGNED, DESTROYED", () -> called().with("undata", RD, 5)
        .yes("enter", REC, HOST).tells(1, "context", REC, 0).tells(101, "context", REC, 1));
    Edge.test(lost, "ASSIGNED, DESTROYED: nothing goes there", () -> {
      Hall h = called().with("undata", RD, 5).with("unknown", RD, FREE, 5);
      h.yes("enter", REC, HOST).tells(1, "context", REC, 0);
      h.with("ask", 5, 6, 1).with("change", REC).with("enter", REC, RUN).with("fetch", 2, 5, 1);
      Due.is("word 1", 0, h.ask("context", REC, 2));
    });
    Edge.test(lost, "ASSIGNED, EMPTY: nothing goes there", () -> {
      Hall h = called().with("enter", REC2, RUN).with("ask", 5, 6, 0).with("change", REC2);
      h.yes("enter", REC, HOST).tells(1, "context", REC, 0);
      h.with("ask", 5, 6, 1).with("change", REC).with("enter", REC, RUN).with("fetch", 2, 5, 1);
      Due.is("word 1", 501, h.ask("context", REC, 2));
    });
    Edge.test(lost, "UNASSIGNED, RAM", () -> {
      Hall h = called().with("undata", RD, 5).with("enter", REC2, RUN).with("ask", 5, 6, 1).with("change", REC2);
      h.yes("enter", REC, HOST).tells(1, "context", REC, 0);
    });
    Edge.test(lost, "the RTT is gone", () -> called().with("undata", RD, 5).with("untable", RD, 0, 3)
        .yes("enter", REC, HOST).tells(1, "context", REC, 0));
    Edge.test("and X0 becomes 0", "another DATA is there by now, RAM", () -> {
      Hall h = called().with("undata", RD, 5).with("enter", REC2, RUN).with("ask", 5, 6, 1).with("change", REC2);
      h.with("unknown", RD, FREE, 5).yes("enter", REC, HOST).tells(0, "context", REC, 0).with("fetch", 2, 5, 8);
      Due.is("word 8", 908, h.ask("context", REC, 2));
    });
  }

  private static void enteredWithChange() {
    String quote = "a CHANGE: X0 becomes 0 if NEXT is to, else 1; X1 NEXT.";
    Edge.test(quote, "not begun", () -> Scene.running().with("ask", 3, 5, 1)
        .yes("enter", REC, RUN).tells(1, "context", REC, 0).tells(3, "context", REC, 1).tells(102, "context", REC, 2));
    Edge.test(quote, "one short of to", () -> Scene.running().with("ask", 3, 5, 1).with("change", REC)
        .yes("enter", REC, RUN).tells(1, "context", REC, 0).tells(4, "context", REC, 1));
    Edge.test(quote, "NEXT is to", () -> Scene.running().with("ask", 3, 5, 1).with("change", REC).with("change", REC)
        .yes("enter", REC, RUN).tells(0, "context", REC, 0).tells(5, "context", REC, 1));
    Edge.test(quote, "NEXT is to, 2048", () -> Scene.running().with("ask", 1536, 2048, 1).with("change", REC)
        .yes("enter", REC, RUN).tells(0, "context", REC, 0).tells(2048, "context", REC, 1));
    Edge.test(quote, "begun at 0, not gone on", () -> Scene.running().with("ask", 0, 1, 0)
        .yes("enter", REC, RUN).tells(1, "context", REC, 0).tells(0, "context", REC, 1));
    String kept = "with a RUN (an UNDELEGATED GRANULE, that it keeps the number of)";
    Edge.test(kept, "each REC its own", () -> Scene.crowd().with("enter", REC, RUN).with("yield1")
        .with("enter", REC2, HOST).exits(HOST, new int[] {1}, "yield1").with("enter", REC, RUN)
        .exits(RUN, new int[] {1}, "yield1"));
    Edge.test(kept, "the last one", () -> Scene.running().with("yield1").with("store", RUN, 0, 77)
        .with("enter", REC, HOST).exits(HOST, new int[] {1}, "yield1").done(77, "load", RUN, 0));
    Edge.test(kept, "its number: DELEGATED and UNDELEGATED again", () -> Scene.running().with("delegate", RUN)
        .with("undelegate", RUN).exits(RUN, new int[] {1}, "yield1"));
    Edge.test(kept, "a refused enter() does not change it", () -> Scene.running().refused(4, "enter", REC, HOST)
        .exits(RUN, new int[] {1}, "yield1").done(0, "load", HOST, 0));
  }

  private static void nothingPending() {
    String quote = "Nothing is PENDING then; it is RUNNING.";
    Edge.test(quote, "after a CALL", () -> called().yes("enter", REC, HOST).tells(0, "context", REC, 10)
        .tells(1, "context", REC, 9));
    Edge.test(quote, "after a CALL that is lost", () -> called().with("undata", RD, 5).yes("enter", REC, HOST)
        .tells(0, "context", REC, 10).with("yield1").with("store", HOST, 1, 5).with("enter", REC, HOST)
        .tells(1, "context", REC, 0));
    Edge.test(quote, "after a CHANGE", () -> Scene.running().with("ask", 3, 5, 1).yes("enter", REC, RUN)
        .tells(0, "context", REC, 10).tells(-1, "context", REC, 11).tells(-1, "context", REC, 12)
        .refused(4, "change", REC).tells(1, "context", REC, 9));
    Edge.test(quote, "a CALL is answered once", () -> {
      Hall h = called().with("enter", REC, HOST).with("yield1").with("store", HOST, 1, 77).with("enter", REC, HOST);
      h.with("fetch", 2, 5, 1);
      Due.is("word 1", 901, h.ask("context", REC, 2));
    });
    Edge.test(quote, "a CHANGE is answered once", () -> Scene.running().with("ask", 3, 5, 1).with("enter", REC, RUN)
        .with("move", 0, 50).with("move", 1, 51).with("yield1").with("enter", REC, RUN)
        .tells(50, "context", REC, 0).tells(51, "context", REC, 1));
  }

  private static Hall fullRun() {
    Hall h = Scene.running();
    for (int word = 0; word < 32; word++) {
      h.with("store", RUN, word, -1 - word);
    }
    return h;
  }

  private static void exits() {
    String quote = "RUN's WORDS become 0, but word 0 the REASON and those told; it is READY.";
    int[] called = {2, 501, 502, 503, 504, 505, 506, 507, 508};
    Edge.test(quote, "YIELD", () -> fullRun().exits(RUN, new int[] {1}, "yield1").tells(0, "context", REC, 9));
    Edge.test(quote, "CALL", () -> fullRun().exits(RUN, called, "call", 5).tells(0, "context", REC, 9));
    Edge.test(quote, "CHANGE", () -> fullRun().exits(RUN, new int[] {3, 4, 9, 1}, "ask", 4, 9, 1)
        .tells(0, "context", REC, 9));
    Edge.test(quote, "OFF", () -> fullRun().exits(RUN, new int[] {4}, "off").tells(0, "context", REC, 9));
    Edge.test(quote, "ABORT", () -> fullRun().exits(RUN, new int[] {5, 6, 1}, "put", 0, 6, 0)
        .tells(0, "context", REC, 9));
  }

  private static void runTakenAway() {
    String quote = "(If RUN is not UNDELEGATED then, nothing is written to it.)";
    String[] acts = {"yield1", "call", "ask", "off", "fetch", "attest"};
    int[][] args = {{}, {5}, {4, 9, 1}, {}, {0, 6, 0}, {6}};
    for (int i = 0; i < acts.length; i++) {
      String act = acts[i];
      int[] with = args[i];
      Edge.test(quote, act + ", it is DELEGATED", () -> {
        Hall h = Scene.running().with("delegate", RUN).done(2, act, with).tells(-1, "count", 7);
        h.with("undelegate", RUN);
        for (int word = 0; word < 32; word++) {
          h.done(0, "load", RUN, word);
        }
      });
      Edge.test(quote, act + ", it is DATA", () -> {
        Hall h = Scene.crowd().with("enter", REC, RUN).with("delegate", RUN);
        h.with("unknown", RD, RUN, 7).done(2, act, with);
        if ("off".equals(act)) {
          h.tells(2, "realm", RD, 0).tells(5, "granule", RUN, 0);
          return;
        }
        h.with("enter", REC2, HOST).with("ask", 7, 8, 1).with("change", REC2).with("enter", REC2, HOST);
        for (int word = 0; word < 10; word++) {
          h.with("fetch", 2, 7, word);
          Due.is("word " + word, 0, h.ask("context", REC2, 2));
        }
      });
    }
    Edge.test(quote, "it is an RD", () -> Scene.running().with("delegate", RUN).with("create", RUN, FREE)
        .done(2, "yield1").tells(0, "realm", RUN, 0).tells(0, "astray"));
    Edge.test(quote, "it is an RTT", () -> Scene.running().with("delegate", RUN).with("table", RD, RUN, 512, 1)
        .done(2, "call", 5).tells(4, "granule", RUN, 0).tells(1, "context", REC, 10).tells(0, "astray"));
  }

  private static void reasons() {
    String quote = "REASONS: 1 YIELD; 2 CALL (1 .. 8: WORDS 1 .. 8 of the PAGE)";
    int[] called = {2, 501, 502, 503, 504, 505, 506, 507, 508};
    Edge.test(quote, "YIELD is 1", () -> Scene.running().exits(RUN, new int[] {1}, "yield1"));
    Edge.test(quote, "WORDS 0 and 9 of the PAGE are not told", () -> Scene.running().exits(RUN, called, "call", 5));
    String change = "3 CHANGE (1 from, 2 to, 3 RIPAS); 4 OFF";
    Edge.test(change, "to EMPTY", () -> Scene.running().exits(RUN, new int[] {3, 0, 2048, 0}, "ask", 0, 2048, 0));
    Edge.test(change, "to RAM", () -> Scene.running().exits(RUN, new int[] {3, 2047, 2048, 1}, "ask", 2047, 2048, 1));
    Edge.test(change, "OFF is 4", () -> Scene.running().exits(RUN, new int[] {4}, "off"));
    String abort = "5 ABORT (1: the PAGE, 2: 1 of a store)";
    Edge.test(abort, "of a fetch", () -> Scene.running().exits(RUN, new int[] {5, 6, 0}, "fetch", 0, 6, 0));
    Edge.test(abort, "of a store", () -> Scene.running().exits(RUN, new int[] {5, 6, 1}, "put", 0, 6, 31));
    Edge.test(abort, "of the last PAGE", () -> Scene.running().exits(RUN, new int[] {5, 4095, 1}, "put", 7, 4095, 0));
    Edge.test(abort, "of a PAGE inside an ENTRY", () -> Scene.reaching()
        .exits(RUN, new int[] {5, 1535, 0}, "fetch", 0, 1535, 0));
  }

  private static void noneRuns() {
    String quote = "NONE (STATUS 4) if none is RUNNING";
    String[] acts = {"move", "fetch", "put", "yield1", "off", "state", "ask", "call", "measure", "extend", "attest"};
    int[][] args = {{0, 1}, {0, 5, 0}, {0, 5, 0}, {}, {}, {5}, {0, 1, 1}, {5}, {0}, {1}, {5}};
    int[][] bad = {{8, 1}, {8, 5, 0}, {0, 4096, 0}, {}, {}, {2048}, {1, 1, 1}, {2048}, {5}, {0}, {2048}};
    for (int i = 0; i < acts.length; i++) {
      Edge.refused(quote, acts[i] + " before any was entered", Scene::active, 4, acts[i], args[i]);
      Edge.refused(quote, acts[i] + " in a REALM that is OFF", Scene::off, 4, acts[i], args[i]);
      Edge.refused(quote, acts[i] + " that would FAULT", Scene::active, 4, acts[i], bad[i]);
      String act = acts[i];
      int[] with = args[i];
      Edge.test(quote, act + " after an EXIT", () -> Scene.running().with("ask", 0, 2, 1).refused(4, act, with));
      Edge.test(quote, act + " on a new object", () -> new Hall(16).refused(4, act, with));
    }
    String answers = "ACTS of the RUNNING REC answer: 0 done, 1 FAULT (nothing happens), 2 it EXITED";
    Edge.done(answers, "done", Scene::running, 0, "move", 0, 1);
    Edge.faults(answers, "FAULT", Scene::running, "extend", 0);
    Edge.faults(answers, "FAULT at an EMPTY PAGE", Scene::running, "put", 0, 4, 0);
    Edge.test(answers, "EXITED", () -> Scene.running().done(2, "yield1").tells(-1, "count", 7));
  }

  private static void reachProtected() {
    String quote =
        "REACHING a PAGE: PROTECTED: its LEAF: EMPTY: FAULT; else ASSIGNED and RAM: its GRANULE; else ABORT.";
    for (int page : EMPTY_PAGES) {
      Edge.faults(quote, "fetch at " + page + ", EMPTY", Scene::reaching, "fetch", 0, page, 0);
      Edge.faults(quote, "put at " + page + ", EMPTY", Scene::reaching, "put", 0, page, 0);
      Edge.faults(quote, "call at " + page + ", EMPTY", Scene::reaching, "call", page);
    }
    for (int page : ABORT_PAGES) {
      Edge.test(quote, "fetch at " + page + ", ABORT", () -> Scene.reaching()
          .exits(RUN, new int[] {5, page, 0}, "fetch", 0, page, 0));
      Edge.test(quote, "put at " + page + ", ABORT", () -> Scene.reaching()
          .exits(RUN, new int[] {5, page, 1}, "put", 0, page, 0));
      Edge.test(quote, "call at " + page + ", ABORT", () -> Scene.reaching()
          .exits(RUN, new int[] {5, page, 0}, "call", page).tells(0, "context", REC, 10));
    }
    Edge.test(quote, "ASSIGNED and RAM", () -> {
      Hall h = Scene.reaching().done(0, "move", 1, 77).done(0, "put", 1, 3, 8).done(0, "fetch", 2, 3, 8);
      h.tells(77, "context", REC, 2).exits(RUN, new int[] {2, 0, 0, 0, 0, 0, 0, 0, 77}, "call", 3);
    });
    Edge.test(quote, "an ABORT leaves the registers", () -> Scene.running().done(2, "fetch", 1, 6, 0)
        .tells(101, "context", REC, 1).with("enter", REC, RUN).tells(100, "context", REC, 0));
  }

  private static void reachShared() {
    String quote = "Not PROTECTED: ASSIGNED to a GRANULE that is UNDELEGATED: that; else ABORT.";
    Edge.test(quote, "UNDELEGATED", () -> {
      Hall h = Scene.reaching().with("store", HOST, 31, 55).done(0, "fetch", 3, 2048, 31).tells(55, "context", REC, 3);
      h.with("move", 4, -4).done(0, "put", 4, 2048, 0).done(-4, "load", HOST, 0).done(55, "load", HOST, 31);
    });
    for (int page : SHARED_ABORTS) {
      Edge.test(quote, "fetch at " + page, () -> Scene.reaching()
          .exits(RUN, new int[] {5, page, 0}, "fetch", 0, page, 0));
      Edge.test(quote, "put at " + page, () -> Scene.reaching()
          .exits(RUN, new int[] {5, page, 1}, "put", 0, page, 0));
    }
    Edge.test(quote, "DELEGATED since it was mapped, and given back", () -> Scene.reaching().with("delegate", HOST)
        .exits(RUN, new int[] {5, 2048, 1}, "put", 0, 2048, 0).with("undelegate", HOST).with("enter", REC, RUN)
        .done(0, "put", 0, 2048, 0));
    Edge.test(quote, "RUN itself", () -> Scene.running().with("map", RD, 2048, RUN).done(0, "put", 3, 2048, 9)
        .done(103, "load", RUN, 9));
    Edge.test(quote, "no more mapped", () -> Scene.reaching().with("unmap", RD, 2048)
        .exits(RUN, new int[] {5, 2048, 0}, "fetch", 0, 2048, 0));
  }

  private static void bounds() {
    String quote = "A PAGE not 0 .. 4095, a word not 0 .. 31, a register not 0 .. 7: FAULT.";
    for (String act : new String[] {"fetch", "put"}) {
      Edge.actFaults(quote, Scene::running, Edge.NO_PAGES, act, 1, 0, 5, 0);
      Edge.actFaults(quote, Scene::running, Edge.NO_WORDS, act, 2, 0, 5, 0);
      Edge.actFaults(quote, Scene::running, Edge.NO_REGISTERS, act, 0, 0, 5, 0);
      Edge.faults(quote, act + ", no such word of a PAGE that would ABORT", Scene::running, act, 0, 6, 32);
      Edge.faults(quote, act + ", no such register at a PAGE that would ABORT", Scene::running, act, 8, 2048, 0);
    }
    Edge.actFaults(quote, Scene::running, Edge.NO_REGISTERS, "move", 0, 0, 1);
    Edge.test(quote, "the first and the last of all are there", () -> Scene.running()
        .done(0, "fetch", 0, 5, 0).done(0, "fetch", 7, 5, 31).done(0, "put", 0, 5, 0).done(0, "put", 7, 5, 31)
        .done(0, "move", 0, 1).done(0, "move", 7, 1));
  }
}
