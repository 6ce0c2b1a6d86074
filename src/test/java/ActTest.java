/** Promises 22 to 29: what a RUNNING REC does, its FAULTS and its EXITS. */
final class ActTest {
  private static final int RD = Scene.RD;
  private static final int REC = Scene.REC;
  private static final int RUN = Scene.RUN;
  private static final int MIN = Integer.MIN_VALUE;
  private static final int MAX = Integer.MAX_VALUE;

  public static void main(String[] args) {
    noneRuns(Scene.active().object);
    noneRuns(Scene.off().object);
    move();
    fetch();
    put();
    shared();
    abort();
    yieldAndOff();
    state();
    ask();
    call();
    runTakenAway();
    Due.end("ActTest");
  }

  private static void noneRuns(GranuleHall h) {
    Due.refused("22: none is RUNNING", h, h.move(0, 1), 4);
    Due.refused("22: none is RUNNING, no register", h, h.move(8, 1), 4);
    Due.refused("23: none is RUNNING", h, h.fetch(0, 5, 0), 4);
    Due.refused("24: none is RUNNING", h, h.put(0, 5, 0), 4);
    Due.refused("25: none is RUNNING", h, h.yield1(), 4);
    Due.refused("26: none is RUNNING", h, h.off(), 4);
    Due.refused("27: none is RUNNING", h, h.state(5), 4);
    Due.refused("28: none is RUNNING", h, h.ask(0, 1, 1), 4);
    Due.refused("29: none is RUNNING", h, h.call(5), 4);
    Due.refused("30: none is RUNNING", h, h.measure(0), 4);
    Due.refused("31: none is RUNNING", h, h.extend(1), 4);
    Due.refused("32: none is RUNNING", h, h.attest(5), 4);
    Due.is("38: no FAULT by these", 0, h.count(10));
    Due.words("22: registers stay", Sha.words(100, 101, 102, 103, 104, 105, 106, 107), Scene.registers(h, REC));
  }

  private static void fault(String what, GranuleHall h, int faultsBefore, int got) {
    Due.done(what, h, 1, got);
    Due.is(what + ", count(10)", faultsBefore + 1, h.count(10));
    Due.is(what + ", RUNNING still", REC, h.count(7));
  }

  private static void move() {
    GranuleHall h = Scene.running().object;
    for (int bad : new int[] {-1, 8, MIN, MAX}) {
      fault("22: move(" + bad + ", 1)", h, h.count(10), h.move(bad, 1));
    }
    Due.words("22: nothing moved", Sha.words(100, 101, 102, 103, 104, 105, 106, 107), Scene.registers(h, REC));
    Due.done("22: move(0, MIN)", h, 0, h.move(0, MIN));
    Due.done("22: move(7, -1)", h, 0, h.move(7, -1));
    Due.words("22: moved", Sha.words(MIN, 101, 102, 103, 104, 105, 106, -1), Scene.registers(h, REC));
  }

  private static void fetch() {
    GranuleHall h = Scene.running().object;
    int[][] bad = {
      {-1, 5, 0}, {8, 5, 0}, {MIN, 5, 0}, {MAX, 5, 0}, {0, -1, 0}, {0, 4096, 0}, {0, MIN, 0}, {0, MAX, 0},
      {0, 5, -1}, {0, 5, 32}, {0, 5, MIN}, {0, 5, MAX}, {8, 6, 0}, {0, 6, 32}, {0, 2048, 32}, {8, 2048, 0},
      {0, 4, 0}, {0, 8, 0}, {0, 2047, 0}
    };
    for (int[] b : bad) {
      String args = "(" + b[0] + ", " + b[1] + ", " + b[2] + ")";
      fault("23: fetch" + args, h, h.count(10), h.fetch(b[0], b[1], b[2]));
      fault("24: put" + args, h, h.count(10), h.put(b[0], b[1], b[2]));
    }
    Due.words("23: registers stay", Sha.words(100, 101, 102, 103, 104, 105, 106, 107), Scene.registers(h, REC));
    Due.done("23: fetch(7, 5, 31)", h, 0, h.fetch(7, 5, 31));
    Due.is("23: X7", 531, h.context(REC, 7));
    Due.done("23: fetch(0, 5, 0)", h, 0, h.fetch(0, 5, 0));
    Due.is("23: X0", 500, h.context(REC, 0));
    h.unknown(RD, 10, 4);
    fault("23: ASSIGNED but EMPTY", h, h.count(10), h.fetch(0, 4, 0));
    h.unknown(RD, 11, 6);
    Due.done("23: ASSIGNED while it runs", h, 0, h.fetch(0, 6, 0));
    Due.is("23: X0 is 0", 0, h.context(REC, 0));
  }

  private static void put() {
    GranuleHall h = Scene.running().object;
    Due.done("24: put(7, 5, 31)", h, 0, h.put(7, 5, 31));
    h.fetch(1, 5, 31);
    Due.is("24: WORD 31", 107, h.context(REC, 1));
    h.fetch(1, 5, 30);
    Due.is("24: WORD 30 stays", 530, h.context(REC, 1));
    Due.is("24: X7 stays", 107, h.context(REC, 7));
  }

  private static void shared() {
    GranuleHall h = Scene.running().object;
    h.map(RD, 2050, Scene.HOST);
    h.map(RD, 2051, RUN);
    h.store(Scene.HOST, 9, 77);
    Due.done("23: a PAGE of the host's", h, 0, h.fetch(1, 2050, 9));
    Due.is("23: X1", 77, h.context(REC, 1));
    Due.done("24: a PAGE of the host's", h, 0, h.put(2, 2050, 31));
    Due.is("24: the host loads it", 102, h.load(Scene.HOST, 31));
    Due.done("24: RUN itself", h, 0, h.put(3, 2051, 4));
    Due.is("24: the host loads it from RUN", 103, h.load(RUN, 4));
    h.delegate(Scene.HOST);
    Due.done("23: DELEGATED by now", h, 2, h.fetch(1, 2050, 9));
    Due.words("23: ABORT", Scene.page(5, 2050, 0), Scene.loaded(h, RUN));
    h.enter(REC, RUN);
    h.unknown(RD, Scene.HOST, 6);
    Due.done("24: DATA by now", h, 2, h.put(1, 2050, 0));
    Due.words("24: ABORT", Scene.page(5, 2050, 1), Scene.loaded(h, RUN));
    h.enter(REC, RUN);
    Due.done("23: DATA where it is PROTECTED", h, 0, h.fetch(1, 6, 0));
    Due.is("24: nothing was put", 0, h.context(REC, 1));
  }

  private static void abort() {
    int[] pages = {6, 2048, 2056, 4095};
    for (int page : pages) {
      GranuleHall h = Scene.running().object;
      for (int i = 0; i < 32; i++) {
        h.store(RUN, i, 1);
      }
      Due.done("23: fetch of " + page, h, 2, h.fetch(1, page, 0));
      Due.words("23: ABORT at " + page, Scene.page(5, page, 0), Scene.loaded(h, RUN));
      Due.is("23: READY", -1, h.count(7));
      Due.is("23: nothing is PENDING", 0, h.context(REC, 10));
      Due.is("23: EXITS", 1, h.count(9));
      Due.is("23: no FAULT", 0, h.count(10));
      Due.is("23: X1 stays", 101, h.context(REC, 1));
      h.enter(REC, RUN);
      Due.is("20: X0 stays after an ABORT", 100, h.context(REC, 0));
      Due.done("24: put to " + page, h, 2, h.put(1, page, 31));
      Due.words("24: ABORT at " + page, Scene.page(5, page, 1), Scene.loaded(h, RUN));
      Due.is("24: EXITS", 2, h.count(9));
    }
    GranuleHall lost = Scene.running().object;
    lost.undata(RD, 5);
    Due.is("23: DESTROYED", 2, lost.fetch(1, 5, 0));
    lost.unknown(RD, 10, 5);
    lost.enter(REC, RUN);
    Due.is("23: ASSIGNED, DESTROYED", 2, lost.fetch(1, 5, 0));
    Due.words("23: ABORT", Scene.page(5, 5, 0), Scene.loaded(lost, RUN));
    GranuleHall wide = Scene.created().object;
    wide.ripas(RD, 600);
    wide.store(Scene.PARAMS, 8, 1);
    wide.rec(REC, RD, Scene.PARAMS);
    wide.activate(RD);
    wide.enter(REC, RUN);
    Due.is("23: RAM, UNASSIGNED, of LEVEL 0", 2, wide.fetch(1, 1023, 0));
    Due.is("23: its PAGE", 1023, wide.load(RUN, 1));
  }

  private static void yieldAndOff() {
    GranuleHall h = Scene.running().object;
    for (int i = 0; i < 32; i++) {
      h.store(RUN, i, 1);
    }
    Due.done("25: yield1()", h, 2, h.yield1());
    Due.words("25: YIELD", Scene.page(1), Scene.loaded(h, RUN));
    Due.is("25: READY", 0, h.context(REC, 9));
    Due.is("25: nothing is PENDING", 0, h.context(REC, 10));
    Due.is("25: ACTIVE", 1, h.realm(RD, 0));
    Due.is("25: EXITS", 1, h.count(9));
    h.enter(REC, RUN);
    h.store(RUN, 9, 1);
    Due.done("26: off()", h, 2, h.off());
    Due.words("26: OFF", Scene.page(4), Scene.loaded(h, RUN));
    Due.is("26: the REALM is OFF", 2, h.realm(RD, 0));
    Due.is("26: READY", -1, h.count(7));
    Due.is("26: EXITS", 2, h.count(9));
  }

  private static void state() {
    GranuleHall h = Scene.running().object;
    for (int bad : new int[] {-1, 2048, 4095, 4096, MIN, MAX}) {
      fault("27: state(" + bad + ")", h, h.count(10), h.state(bad));
    }
    Due.is("27: X0 stays", 100, h.context(REC, 0));
    Due.done("27: RAM", h, 0, h.state(5));
    Due.is("27: X0", 1, h.context(REC, 0));
    Due.done("27: EMPTY, of LEVEL 0", h, 0, h.state(2047));
    Due.is("27: X0", 0, h.context(REC, 0));
    h.undata(RD, 5);
    Due.done("27: DESTROYED", h, 0, h.state(5));
    Due.is("27: X0", 2, h.context(REC, 0));
    Due.is("27: X1 stays", 101, h.context(REC, 1));
  }

  private static void ask() {
    GranuleHall h = Scene.running().object;
    int[][] bad = {
      {5, 5, 1}, {6, 5, 1}, {-1, 5, 1}, {0, 2049, 1}, {2048, 2048, 1}, {2048, 2049, 1}, {MIN, 5, 0}, {0, MAX, 0},
      {0, 0, 0}, {0, 1, 2}, {0, 1, -1}, {0, 1, MIN}, {0, 1, MAX}, {-2, -1, 0}
    };
    for (int[] b : bad) {
      fault("28: ask(" + b[0] + ", " + b[1] + ", " + b[2] + ")", h, h.count(10), h.ask(b[0], b[1], b[2]));
    }
    Due.is("28: nothing is PENDING", 0, h.context(REC, 10));
    Due.done("28: ask(0, 2048, 0)", h, 2, h.ask(0, 2048, 0));
    Due.words("28: CHANGE", Scene.page(3, 0, 2048, 0), Scene.loaded(h, RUN));
    Due.is("28: PENDING", 2, h.context(REC, 10));
    Due.is("28: NEXT", 0, h.context(REC, 11));
    Due.is("28: to", 2048, h.context(REC, 12));
    Due.is("28: READY", 0, h.context(REC, 9));
    Due.is("28: nothing is changed by asking", 1, h.walk(RD, 5, 3, 2));
    h.enter(REC, RUN);
    Due.done("28: ask(2047, 2048, 1)", h, 2, h.ask(2047, 2048, 1));
    Due.words("28: CHANGE", Scene.page(3, 2047, 2048, 1), Scene.loaded(h, RUN));
    Due.is("28: EXITS", 2, h.count(9));
  }

  private static void call() {
    GranuleHall h = Scene.running().object;
    for (int bad : new int[] {-1, 2048, 4096, MIN, MAX}) {
      fault("29: call(" + bad + ")", h, h.count(10), h.call(bad));
    }
    h.map(RD, 2050, Scene.HOST);
    fault("29: a PAGE of the host's", h, h.count(10), h.call(2050));
    fault("29: EMPTY", h, h.count(10), h.call(4));
    for (int i = 0; i < 32; i++) {
      h.store(RUN, i, 1);
    }
    Due.done("29: call(5)", h, 2, h.call(5));
    int[] want = Scene.page(2, 501, 502, 503, 504, 505, 506, 507, 508);
    Due.words("29: CALL", want, Scene.loaded(h, RUN));
    Due.is("29: PENDING", 1, h.context(REC, 10));
    Due.is("29: no NEXT", -1, h.context(REC, 11));
    Due.is("29: no to", -1, h.context(REC, 12));
    Due.is("29: READY", -1, h.count(7));
    h.enter(REC, RUN);
    Due.done("29: RAM, UNASSIGNED", h, 2, h.call(6));
    Due.words("29: ABORT", Scene.page(5, 6, 0), Scene.loaded(h, RUN));
    Due.is("29: nothing is PENDING", 0, h.context(REC, 10));
  }

  private static void runTakenAway() {
    GranuleHall h = Scene.running().object;
    h.delegate(RUN);
    Due.done("25: RUN is DELEGATED", h, 2, h.yield1());
    h.undelegate(RUN);
    Due.words("25: nothing is written", Scene.page(), Scene.loaded(h, RUN));

    GranuleHall call = Scene.running().object;
    call.delegate(RUN);
    call.unknown(RD, RUN, 6);
    Due.done("29: RUN is DATA", call, 2, call.call(5));
    call.enter(REC, 42);
    for (int i = 0; i < 9; i++) {
      call.fetch(1, 6, i);
      Due.is("29: nothing is written to DATA, WORD " + i, 0, call.context(REC, 1));
    }

    GranuleHall back = Scene.running().object;
    back.delegate(RUN);
    back.undelegate(RUN);
    back.yield1();
    Due.is("25: RUN is UNDELEGATED again", 1, back.load(RUN, 0));
  }
}
