/** Promises 33 to 40: what is told. */
final class ToldTest {
  private static final int RD = Scene.RD;
  private static final int REC = Scene.REC;
  private static final int MIN = Integer.MIN_VALUE;
  private static final int MAX = Integer.MAX_VALUE;

  public static void main(String[] args) {
    granule();
    realm();
    walk();
    context();
    measured();
    count();
    tellingLeavesStatus();
    astray();
    Due.end("ToldTest");
  }

  private static void granule() {
    GranuleHall h = Scene.running().object;
    int[][] want = {
      {Scene.HOST, 0, -1, -1}, {Scene.FREE, 1, -1, -1}, {RD, 2, RD, -1}, {REC, 3, RD, 0}, {Scene.ROOT, 4, RD, 0},
      {Scene.T1, 4, RD, 1}, {Scene.T2, 4, RD, 2}, {Scene.U3, 4, RD, 3}, {Scene.DATA, 5, RD, 5}, {47, 0, -1, -1}
    };
    for (int[] w : want) {
      for (int what = 0; what < 3; what++) {
        Due.is("33: granule(" + w[0] + ", " + what + ")", w[what + 1], h.granule(w[0], what));
      }
      for (int bad : new int[] {-1, 3, MIN, MAX}) {
        Due.is("33: granule(" + w[0] + ", " + bad + ")", -1, h.granule(w[0], bad));
      }
    }
    for (int bad : new int[] {-1, 48, MIN, MAX}) {
      Due.is("33: granule(" + bad + ", 0)", -1, h.granule(bad, 0));
    }
    GranuleHall two = Scene.delegated().object;
    two.create(5, 6);
    two.create(7, 8);
    two.table(7, 9, 0, 1);
    two.rec(10, 7, Scene.PARAMS);
    Due.is("33: RTT of the second", 7, two.granule(9, 1));
    Due.is("33: REC of the second", 7, two.granule(10, 1));
    Due.is("33: root of the first", 5, two.granule(6, 1));
  }

  private static void realm() {
    GranuleHall h = Scene.running().object;
    h.unknown(RD, 10, 0);
    int[] want = {1, Scene.ROOT, 1, 7, 2, 2, 1};
    for (int what = 0; what < want.length; what++) {
      Due.is("34: realm(0, " + what + ")", want[what], h.realm(RD, what));
    }
    for (int bad : new int[] {-1, 7, MIN, MAX}) {
      Due.is("34: realm(0, " + bad + ")", -1, h.realm(RD, bad));
    }
    for (int bad : new int[] {-1, 48, MIN, MAX, Scene.ROOT, REC, Scene.DATA, Scene.HOST, Scene.FREE}) {
      for (int what = 0; what < want.length; what++) {
        Due.is("34: realm(" + bad + ", " + what + ")", -1, h.realm(bad, what));
      }
    }
    h.create(15, 16);
    Due.is("34: a second is NEW", 0, h.realm(15, 0));
    Due.is("34: with one RTT", 1, h.realm(15, 3));
    Due.is("34: with no REC", 0, h.realm(15, 2));
    Due.is("34: with no RAM", 0, h.realm(15, 5));
    Due.is("34: RAM of the first stays", 2, h.realm(RD, 5));
  }

  private static void walk() {
    GranuleHall h = Scene.running().object;
    h.map(RD, 2049, Scene.HOST);
    int[][] want = {
      {5, 0, 0, 2, 0, Scene.T1}, {5, 1, 1, 2, 0, Scene.T2}, {5, 2, 2, 2, 0, Scene.T3}, {5, 3, 3, 1, 1, Scene.DATA},
      {6, 3, 3, 0, 1, -1}, {7, 3, 3, 0, 0, -1}, {8, 3, 2, 0, 0, -1}, {63, 2, 2, 0, 0, -1}, {64, 2, 1, 0, 0, -1},
      {512, 3, 0, 0, 0, -1}, {2047, 3, 0, 0, 0, -1}, {2049, 3, 3, 1, 0, Scene.HOST}, {2049, 2, 2, 2, 0, Scene.U3},
      {4095, 3, 0, 0, 0, -1}
    };
    for (int[] w : want) {
      for (int what = 0; what < 4; what++) {
        String call = "35: walk(0, " + w[0] + ", " + w[1] + ", " + what + ")";
        Due.is(call, w[what + 2], h.walk(RD, w[0], w[1], what));
      }
    }
    int[][] bad = {
      {-1, 5, 3, 0}, {48, 5, 3, 0}, {Scene.ROOT, 5, 3, 0}, {Scene.HOST, 5, 3, 0}, {MAX, 5, 3, 0}, {RD, -1, 3, 0},
      {RD, 4096, 3, 0}, {RD, MIN, 3, 0}, {RD, MAX, 3, 0}, {RD, 5, -1, 0}, {RD, 5, 4, 0}, {RD, 5, MIN, 0},
      {RD, 5, MAX, 0}, {RD, 5, 3, -1}, {RD, 5, 3, 4}, {RD, 5, 3, MIN}, {RD, 5, 3, MAX}
    };
    for (int[] b : bad) {
      String call = "35: walk(" + b[0] + ", " + b[1] + ", " + b[2] + ", " + b[3] + ")";
      Due.is(call, -1, h.walk(b[0], b[1], b[2], b[3]));
    }
  }

  private static void context() {
    GranuleHall h = Scene.running().object;
    int[] want = {100, 101, 102, 103, 104, 105, 106, 107, 1, 1, 0, -1, -1, 1};
    for (int what = 0; what < want.length; what++) {
      Due.is("36: context(rec, " + what + ")", want[what], h.context(REC, what));
    }
    for (int bad : new int[] {-1, 14, MIN, MAX}) {
      Due.is("36: context(rec, " + bad + ")", -1, h.context(REC, bad));
    }
    for (int bad : new int[] {-1, 48, MIN, MAX, RD, Scene.ROOT, Scene.DATA, Scene.HOST, Scene.FREE}) {
      for (int what = 0; what < want.length; what++) {
        Due.is("36: context(" + bad + ", " + what + ")", -1, h.context(bad, what));
      }
    }
    h.ask(3, 9, 1);
    Due.is("36: READY", 0, h.context(REC, 9));
    Due.is("36: a CHANGE", 2, h.context(REC, 10));
    Due.is("36: NEXT", 3, h.context(REC, 11));
    Due.is("36: to", 9, h.context(REC, 12));
    h.change(REC);
    Due.is("36: NEXT goes on", 4, h.context(REC, 11));
    h.enter(REC, Scene.RUN);
    Due.is("36: nothing PENDING", 0, h.context(REC, 10));
    Due.is("36: no NEXT", -1, h.context(REC, 11));
    Due.is("36: no to", -1, h.context(REC, 12));
    Due.is("36: entered twice", 2, h.context(REC, 13));
  }

  private static void measured() {
    GranuleHall h = Scene.created().object;
    int[] rim = Sha.of(1, Scene.SIZE);
    for (int k = 0; k < 8; k++) {
      Due.is("37: measured(0, 0, " + k + ")", rim[k], h.measured(RD, 0, k));
      Due.is("37: measured(0, 4, " + k + ")", 0, h.measured(RD, 4, k));
    }
    for (int bad : new int[] {-1, 48, MIN, MAX, Scene.ROOT, Scene.HOST, Scene.FREE}) {
      Due.is("37: measured(" + bad + ", 0, 0)", 0, h.measured(bad, 0, 0));
    }
    for (int bad : new int[] {-1, 5, MIN, MAX}) {
      Due.is("37: measured(0, " + bad + ", 0)", 0, h.measured(RD, bad, 0));
    }
    for (int bad : new int[] {-1, 8, MIN, MAX}) {
      Due.is("37: measured(0, 0, " + bad + ")", 0, h.measured(RD, 0, bad));
    }
  }

  private static void count() {
    GranuleHall h = Scene.active().object;
    int[] want = {48, 24, 14, 1, 1, 7, 1, -1, 1, 0, 0};
    for (int what = 0; what < want.length; what++) {
      Due.is("38: count(" + what + ")", want[what], h.count(what));
    }
    for (int bad : new int[] {-1, 11, MIN, MAX}) {
      Due.is("38: count(" + bad + ")", -1, h.count(bad));
    }
    h.enter(REC, Scene.RUN);
    Due.is("38: the RUNNING REC", REC, h.count(7));
    h.move(8, 0);
    h.fetch(0, 4, 0);
    h.state(4096);
    Due.is("38: FAULTS", 3, h.count(10));
    h.yield1();
    h.enter(REC, Scene.RUN);
    h.fetch(0, 6, 0);
    h.enter(REC, Scene.RUN);
    h.ask(0, 1, 1);
    h.enter(REC, Scene.RUN);
    h.call(5);
    h.enter(REC, Scene.RUN);
    h.off();
    Due.is("38: EXITS", 5, h.count(9));
    Due.is("38: none is RUNNING", -1, h.count(7));
    h.create(15, 16);
    Due.is("38: REALMS", 2, h.count(8));
    Due.is("38: RDS", 2, h.count(3));
  }

  private static void tellingLeavesStatus() {
    GranuleHall h = Scene.active().object;
    h.activate(RD);
    int[] told = {
      h.status(), h.granule(0, 0), h.granule(-1, 0), h.realm(RD, 0), h.realm(-1, 0), h.walk(RD, 5, 3, 0),
      h.walk(RD, -1, 3, 0), h.context(REC, 0), h.context(RD, 99), h.measured(RD, 0, 0), h.measured(RD, 9, 9),
      h.count(0), h.count(99), h.astray(), h.status()
    };
    Due.is("39: at first", 3, told[0]);
    Due.is("39: after all that tells", 3, told[told.length - 1]);
    h.load(0, 0);
    Due.is("39: load() refused", 2, h.status());
    h.load(Scene.HOST, 0);
    Due.is("39: load() done", 0, h.status());
    h.granule(-1, 0);
    Due.is("39: NONE that is told", 0, h.status());
    h.off();
    Due.is("39: an act while none is RUNNING", 4, h.status());
    h.enter(REC, Scene.RUN);
    h.delegate(-1);
    h.move(9, 9);
    Due.is("39: a FAULT", 0, h.status());
    h.delegate(-1);
    h.yield1();
    Due.is("39: an EXIT", 0, h.status());
  }

  private static void astray() {
    GranuleHall h = Scene.running().object;
    Due.is("40: RUNNING", 0, h.astray());
    h.map(RD, 2048, Scene.DATA);
    h.map(RD, 2049, Scene.DATA);
    h.map(RD, 2050, Scene.T1);
    h.map(RD, 2051, Scene.FREE);
    Due.is("40: GRANULES mapped by the host", 0, h.astray());
    h.undata(RD, 5);
    h.create(Scene.DATA, 15);
    Due.is("40: an RD that was DATA", 0, h.astray());
    h.off();
    h.end(REC);
    h.untable(RD, 0, 3);
    Due.is("40: an RTT and a REC less", 0, h.astray());
    h.fold(RD, 2048, 3);
    h.destroy(Scene.DATA);
    Due.is("40: a REALM less", 0, h.astray());
  }
}
