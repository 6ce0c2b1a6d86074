/** Promises 11 to 13: RTTS that are laid, taken away and folded. */
final class TableTest {
  private static final int RD = Scene.RD;

  public static void main(String[] args) {
    tableBounds();
    table();
    tableInherits();
    untable();
    fold();
    anyRealm();
    Due.end("TableTest");
  }

  private static void tableBounds() {
    GranuleHall h = Scene.tabled().object;
    int[][] bad = {
      {-1, 20, 512, 1}, {48, 20, 512, 1}, {RD, -1, 512, 1}, {RD, 48, 512, 1},
      {RD, 20, -512, 1}, {RD, 20, 4096, 1}, {RD, 20, Integer.MIN_VALUE, 1}, {RD, 20, Integer.MAX_VALUE, 1},
      {RD, 20, 512, 0}, {RD, 20, 512, 4}, {RD, 20, 512, -1}, {RD, 20, 512, Integer.MAX_VALUE},
      {RD, 20, 512, Integer.MIN_VALUE},
      {RD, 20, 511, 1}, {RD, 20, 513, 1}, {RD, 20, 576, 1}, {RD, 20, 32, 2}, {RD, 20, 65, 2}, {RD, 20, 9, 3},
      {RD, 20, 12, 3}
    };
    for (int[] b : bad) {
      String args = b[0] + ", " + b[1] + ", " + b[2] + ", " + b[3];
      Due.refused("11: table(" + args + ")", h, h.table(b[0], b[1], b[2], b[3]), 1);
      if (b[1] == 20) {
        Due.refused("12: untable(" + args + ")", h, h.untable(b[0], b[2], b[3]), 1);
        Due.refused("13: fold(" + args + ")", h, h.fold(b[0], b[2], b[3]), 1);
      }
    }
    Due.refused("11: no RD", h, h.table(Scene.ROOT, 20, 512, 1), 2);
    Due.refused("11: rtt is UNDELEGATED", h, h.table(RD, 30, 512, 1), 2);
    Due.refused("11: rtt is an RTT", h, h.table(RD, Scene.T1, 512, 1), 2);
    Due.refused("11: rtt is the RD", h, h.table(RD, RD, 512, 1), 2);
    Due.refused("11: 2 ahead of 5", h, h.table(RD, 30, 0, 1), 2);
    Due.refused("11: 1 ahead of 2", h, h.table(Scene.ROOT, 30, 1, 1), 1);
    Due.refused("12: no RD", h, h.untable(Scene.ROOT, 0, 1), 2);
    Due.refused("13: no RD", h, h.fold(Scene.FREE, 0, 1), 2);
    Due.is("11: nothing was laid", 7, h.realm(RD, 3));
  }

  private static void table() {
    GranuleHall h = Scene.created().object;
    Due.refused("11: LEVEL 2 without LEVEL 1", h, h.table(RD, 2, 512, 2), 5);
    Due.refused("11: LEVEL 3 without LEVEL 1", h, h.table(RD, 2, 512, 3), 5);
    Due.done("11: LEVEL 1", h, h.table(RD, 2, 512, 1));
    Due.refused("11: there already", h, h.table(RD, 3, 512, 1), 5);
    Due.refused("11: LEVEL 3 without LEVEL 2", h, h.table(RD, 3, 512, 3), 5);
    Due.done("11: LEVEL 2 at the last ENTRY", h, h.table(RD, 3, 960, 2));
    Due.done("11: LEVEL 3 at the last ENTRY", h, h.table(RD, 4, 1016, 3));
    Due.refused("11: LEVEL 3 there already", h, h.table(RD, 5, 1016, 3), 5);
    Due.is("11: STATE", 4, h.granule(4, 0));
    Due.is("11: its RD", RD, h.granule(4, 1));
    Due.is("11: its LEVEL", 3, h.granule(4, 2));
    Due.is("11: RTTS", 4, h.realm(RD, 3));
    int[][] walks = {
      {512, 0, 0, 2, 2}, {1023, 0, 0, 2, 2}, {1023, 1, 1, 2, 3}, {1023, 2, 2, 2, 4}, {1023, 3, 3, 0, -1},
      {1016, 3, 3, 0, -1}, {1015, 3, 2, 0, -1}, {960, 3, 2, 0, -1}, {959, 3, 1, 0, -1}, {511, 3, 0, 0, -1},
      {1024, 3, 0, 0, -1}
    };
    for (int[] w : walks) {
      String what = "11: walk of " + w[0] + " to " + w[1];
      Due.is(what + ", LEVEL", w[2], h.walk(RD, w[0], w[1], 0));
      Due.is(what + ", ENTRY", w[3], h.walk(RD, w[0], w[1], 1));
      Due.is(what + ", GRANULE", w[4], h.walk(RD, w[0], w[1], 3));
    }
    Due.done("11: not PROTECTED, the last", h, h.table(RD, 6, 3584, 1));
  }

  private static void tableInherits() {
    GranuleHall h = Scene.created().object;
    h.ripas(RD, 1000);
    Due.is("11: 512 PAGES are RAM", 512, h.realm(RD, 5));
    h.table(RD, 2, 512, 1);
    Due.is("11: a TABLE is EMPTY", 0, h.walk(RD, 512, 0, 2));
    Due.is("11: its first ENTRY is RAM", 1, h.walk(RD, 512, 3, 2));
    Due.is("11: its last ENTRY is RAM", 1, h.walk(RD, 1023, 3, 2));
    Due.is("11: 512 PAGES are RAM still", 512, h.realm(RD, 5));
    h.untable(RD, 512, 1);
    Due.is("11: none is RAM now", 0, h.realm(RD, 5));
    h.table(RD, 2, 512, 1);
    Due.is("11: DESTROYED goes on", 2, h.walk(RD, 800, 3, 2));
  }

  private static void untable() {
    GranuleHall h = Scene.tabled().object;
    Due.refused("12: no TABLE", h, h.untable(RD, 512, 1), 5);
    Due.refused("12: no TABLE of LEVEL 2", h, h.untable(RD, 512, 2), 5);
    Due.refused("12: no TABLE of LEVEL 3", h, h.untable(RD, 8, 3), 5);
    Due.refused("12: it has a TABLE", h, h.untable(RD, 0, 1), 5);
    Due.refused("12: it has a TABLE", h, h.untable(RD, 0, 2), 5);
    h.unknown(RD, 10, 7);
    h.map(RD, 2055, Scene.HOST);
    Due.refused("12: its last ENTRY is ASSIGNED", h, h.untable(RD, 0, 3), 5);
    Due.refused("12: its last ENTRY is ASSIGNED", h, h.untable(RD, 2048, 3), 5);
    h.undata(RD, 7);
    h.unmap(RD, 2055);
    Due.done("12: untable(0, 0, 3)", h, h.untable(RD, 0, 3));
    Due.is("12: DELEGATED", 1, h.granule(Scene.T3, 0));
    Due.is("12: no LEVEL", -1, h.granule(Scene.T3, 2));
    Due.is("12: the ENTRY above is UNASSIGNED", 0, h.walk(RD, 0, 3, 1));
    Due.is("12: of LEVEL 2", 2, h.walk(RD, 0, 3, 0));
    Due.is("12: has no GRANULE", -1, h.walk(RD, 0, 3, 3));
    Due.is("12: DESTROYED", 2, h.walk(RD, 0, 3, 2));
    Due.done("12: not PROTECTED", h, h.untable(RD, 2048, 3));
    Due.is("12: EMPTY", 0, h.walk(RD, 2048, 3, 2));
    Due.is("12: RTTS", 5, h.realm(RD, 3));
  }

  private static void fold() {
    GranuleHall h = Scene.tabled().object;
    Due.refused("13: no TABLE", h, h.fold(RD, 512, 1), 5);
    Due.refused("13: it has a TABLE", h, h.fold(RD, 0, 2), 5);
    for (int page = 0; page < 7; page++) {
      h.ripas(RD, page);
    }
    Due.refused("13: the last is unlike", h, h.fold(RD, 0, 3), 5);
    h.ripas(RD, 7);
    h.unknown(RD, 10, 3);
    Due.refused("13: one is ASSIGNED", h, h.fold(RD, 0, 3), 5);
    h.undata(RD, 3);
    Due.refused("13: one is DESTROYED", h, h.fold(RD, 0, 3), 5);
    h.ripas(RD, 3);
    Due.done("13: all are RAM", h, h.fold(RD, 0, 3));
    Due.is("13: DELEGATED", 1, h.granule(Scene.T3, 0));
    Due.is("13: LEVEL", 2, h.walk(RD, 7, 3, 0));
    Due.is("13: UNASSIGNED", 0, h.walk(RD, 7, 3, 1));
    Due.is("13: RAM", 1, h.walk(RD, 7, 3, 2));
    Due.is("13: 8 PAGES", 8, h.realm(RD, 5));
    Due.refused("13: the first is unlike", h, h.fold(RD, 0, 2), 5);
    Due.done("13: not PROTECTED", h, h.fold(RD, 2048, 3));
    Due.is("13: EMPTY", 0, h.walk(RD, 2048, 3, 2));
    Due.is("13: RTTS", 5, h.realm(RD, 3));

    Due.done("9: a REC where the RTT was", h, 0, h.rec(Scene.T3, RD, Scene.PARAMS));
    Due.is("13: nothing is left of its ENTRIES in a REC", 8, h.realm(RD, 5));
    Due.is("13: nor astray", 0, h.astray());

    GranuleHall lost = Scene.created().object;
    lost.table(RD, 2, 512, 1);
    lost.untable(RD, 512, 1);
    lost.table(RD, 2, 512, 1);
    Due.done("13: all are DESTROYED", lost, lost.fold(RD, 512, 1));
    Due.is("13: DESTROYED", 2, lost.walk(RD, 512, 3, 2));
    lost.table(RD, 2, 1024, 1);
    Due.done("13: all are EMPTY", lost, lost.fold(RD, 1024, 1));
    Due.is("13: EMPTY", 0, lost.walk(RD, 1024, 3, 2));
  }

  private static void anyRealm() {
    for (GranuleHall h : new GranuleHall[] {Scene.active().object, Scene.off().object}) {
      String how = " of a REALM that is " + h.realm(RD, 0);
      Due.done("11: a TABLE" + how, h, h.table(RD, 20, 8, 3));
      Due.done("13: fold" + how, h, h.fold(RD, 8, 3));
      Due.done("11: a TABLE again" + how, h, h.table(RD, 20, 8, 3));
      Due.done("12: untable" + how, h, h.untable(RD, 8, 3));
    }
  }
}
