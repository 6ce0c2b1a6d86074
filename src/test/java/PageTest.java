/** Promises 14 to 19: RIPAS, DATA and what the host maps. */
final class PageTest {
  private static final int RD = Scene.RD;
  private static final int SOURCE = Scene.SOURCE;
  private static final int[] NO_GRANULES = {-1, 48, Integer.MIN_VALUE, Integer.MAX_VALUE};
  private static final int[] NOT_PROTECTED = {-1, 2048, 4095, 4096, Integer.MIN_VALUE, Integer.MAX_VALUE};
  private static final int[] NOT_SHARED = {-1, 0, 2047, 4096, Integer.MIN_VALUE, Integer.MAX_VALUE};

  public static void main(String[] args) {
    ripas();
    dataBounds();
    data();
    unknown();
    undata();
    map();
    unmap();
    Due.end("PageTest");
  }

  private static void ripas() {
    GranuleHall h = Scene.tabled().object;
    for (int bad : NO_GRANULES) {
      Due.refused("14: ripas(" + bad + ", 0)", h, h.ripas(bad, 0), 1);
    }
    for (int bad : NOT_PROTECTED) {
      Due.refused("14: ripas(0, " + bad + ")", h, h.ripas(RD, bad), 1);
    }
    Due.refused("14: no RD", h, h.ripas(Scene.ROOT, 0), 2);
    int[] rim = Scene.measurement(h, RD, 0);
    int[][] spans = {{2047, 512, 1536}, {511, 64, 448}, {63, 8, 56}, {7, 1, 7}, {7, 1, 7}};
    for (int[] s : spans) {
      Due.done("14: ripas(0, " + s[0] + ")", h, s[1], h.ripas(RD, s[0]));
      rim = Sha.extended(rim, Sha.words(3, s[2], s[1]));
      Due.words("14: RIM", rim, Scene.measurement(h, RD, 0));
      Due.is("14: RAM", 1, h.walk(RD, s[2], 3, 2));
    }
    Due.is("14: PAGES that are RAM", 512 + 64 + 8 + 1, h.realm(RD, 5));
    h.unknown(RD, 10, 6);
    Due.refused("14: ASSIGNED", h, h.ripas(RD, 6), 5);
    Due.words("14: a refused one leaves the RIM", rim, Scene.measurement(h, RD, 0));
    h.activate(RD);
    Due.refused("14: ACTIVE", h, h.ripas(RD, 0), 3);
    Due.refused("14: 3 ahead of 5", h, h.ripas(RD, 6), 3);
  }

  private static void dataBounds() {
    GranuleHall h = Scene.tabled().object;
    h.ripas(RD, 5);
    for (int bad : NO_GRANULES) {
      Due.refused("15: rd " + bad, h, h.data(bad, 8, 5, SOURCE), 1);
      Due.refused("15: data " + bad, h, h.data(RD, bad, 5, SOURCE), 1);
      Due.refused("15: source " + bad, h, h.data(RD, 8, 5, bad), 1);
      Due.refused("16: rd " + bad, h, h.unknown(bad, 8, 5), 1);
      Due.refused("16: data " + bad, h, h.unknown(RD, bad, 5), 1);
    }
    for (int bad : NOT_PROTECTED) {
      Due.refused("15: page " + bad, h, h.data(RD, 8, bad, SOURCE), 1);
      Due.refused("16: page " + bad, h, h.unknown(RD, 8, bad), 1);
      Due.refused("17: page " + bad, h, h.undata(RD, bad), 1);
    }
    Due.refused("15: no RD", h, h.data(Scene.ROOT, 8, 5, SOURCE), 2);
    Due.refused("15: data is UNDELEGATED", h, h.data(RD, 41, 5, SOURCE), 2);
    Due.refused("15: source is DELEGATED", h, h.data(RD, 8, 5, 9), 2);
    Due.refused("15: data is source", h, h.data(RD, 8, 5, 8), 2);
    Due.refused("16: no RD", h, h.unknown(Scene.FREE, 8, 5), 2);
    Due.refused("16: data is UNDELEGATED", h, h.unknown(RD, 41, 5), 2);
    Due.refused("15: not RAM", h, h.data(RD, 8, 4, SOURCE), 5);
    Due.refused("15: LEVEL 2", h, h.data(RD, 8, 8, SOURCE), 5);
    h.ripas(RD, 8);
    Due.refused("15: LEVEL 2, RAM", h, h.data(RD, 8, 8, SOURCE), 5);
    Due.refused("16: LEVEL 2", h, h.unknown(RD, 8, 8), 5);
    Due.refused("16: LEVEL 0", h, h.unknown(RD, 8, 1024), 5);
    Due.is("15: nothing was given", 0, h.realm(RD, 4));
  }

  private static void data() {
    GranuleHall h = Scene.tabled().object;
    h.ripas(RD, 5);
    int[] words = new int[32];
    for (int i = 0; i < 32; i++) {
      words[i] = 0x01020304 * (i - 7);
      h.store(SOURCE, i, words[i]);
    }
    int[] rim = Scene.measurement(h, RD, 0);
    Due.done("15: data", h, h.data(RD, 8, 5, SOURCE));
    rim = Sha.extended(rim, Sha.words(2, 5), Sha.of(words));
    Due.words("15: RIM", rim, Scene.measurement(h, RD, 0));
    Due.is("15: STATE", 5, h.granule(8, 0));
    Due.is("15: its PAGE", 5, h.granule(8, 2));
    Due.is("15: ASSIGNED", 1, h.walk(RD, 5, 3, 1));
    Due.is("15: RAM still", 1, h.walk(RD, 5, 3, 2));
    Due.is("15: to it", 8, h.walk(RD, 5, 3, 3));
    Due.words("15: source stays", words, Scene.loaded(h, SOURCE));
    Due.refused("15: ASSIGNED already", h, h.data(RD, 9, 5, SOURCE), 5);
    h.store(Scene.PARAMS, 8, 1);
    h.rec(Scene.REC, RD, Scene.PARAMS);
    h.store(SOURCE, 0, 99);
    h.activate(RD);
    h.enter(Scene.REC, Scene.RUN);
    for (int i = 0; i < 32; i++) {
      h.fetch(1, 5, i);
      Due.is("15: word " + i, words[i], h.context(Scene.REC, 1));
    }
    Due.refused("15: ACTIVE", h, h.data(RD, 10, 5, SOURCE), 3);
    h.off();
    Due.refused("15: OFF", h, h.data(RD, 10, 5, SOURCE), 3);
  }

  private static void unknown() {
    GranuleHall h = Scene.tabled().object;
    h.store(10, 0, 1);
    h.ripas(RD, 1);
    int[] rim = Scene.measurement(h, RD, 0);
    Due.done("16: NEW, EMPTY", h, h.unknown(RD, 10, 0));
    Due.is("16: EMPTY still", 0, h.walk(RD, 0, 3, 2));
    Due.done("16: NEW, RAM", h, h.unknown(RD, 11, 1));
    Due.is("16: RAM still", 1, h.walk(RD, 1, 3, 2));
    h.undata(RD, 1);
    Due.done("16: DESTROYED", h, h.unknown(RD, 11, 1));
    Due.is("16: DESTROYED still", 2, h.walk(RD, 1, 3, 2));
    Due.is("16: ASSIGNED", 1, h.walk(RD, 1, 3, 1));
    Due.is("16: STATE", 5, h.granule(11, 0));
    Due.is("16: its PAGE", 1, h.granule(11, 2));
    Due.is("16: its RD", RD, h.granule(11, 1));
    Due.words("16: the RIM stays", rim, Scene.measurement(h, RD, 0));
    Due.refused("16: ASSIGNED already", h, h.unknown(RD, 12, 1), 5);
    Due.is("16: DATA", 2, h.realm(RD, 4));

    GranuleHall run = Scene.running().object;
    Due.done("16: ACTIVE", run, run.unknown(RD, 10, 6));
    for (int i = 0; i < 32; i++) {
      run.fetch(1, 6, i);
      Due.is("16: word " + i, 0, run.context(Scene.REC, 1));
    }
    run.off();
    Due.refused("16: OFF", run, run.unknown(RD, 11, 7), 3);
    Due.refused("16: 3 ahead of 5", run, run.unknown(RD, 11, 6), 3);
  }

  private static void undata() {
    GranuleHall h = Scene.furnished().object;
    Due.refused("17: no such GRANULE", h, h.undata(-1, 5), 1);
    Due.refused("17: no such GRANULE", h, h.undata(48, 5), 1);
    Due.refused("17: no RD", h, h.undata(Scene.REC, 5), 2);
    Due.refused("17: UNASSIGNED", h, h.undata(RD, 6), 5);
    Due.refused("17: UNASSIGNED, LEVEL 0", h, h.undata(RD, 600), 5);
    Due.done("17: from RAM", h, Scene.DATA, h.undata(RD, 5));
    Due.is("17: DELEGATED", 1, h.granule(Scene.DATA, 0));
    Due.is("17: no PAGE", -1, h.granule(Scene.DATA, 2));
    Due.is("17: UNASSIGNED", 0, h.walk(RD, 5, 3, 1));
    Due.is("17: DESTROYED", 2, h.walk(RD, 5, 3, 2));
    Due.is("17: no GRANULE", -1, h.walk(RD, 5, 3, 3));
    Due.is("17: DATA", 0, h.realm(RD, 4));
    Due.refused("17: taken already", h, h.undata(RD, 5), 5);
    h.unknown(RD, 10, 5);
    Due.done("17: from DESTROYED", h, 10, h.undata(RD, 5));
    Due.is("17: DESTROYED still", 2, h.walk(RD, 5, 3, 2));
    h.unknown(RD, 11, 0);
    Due.done("17: from EMPTY", h, 11, h.undata(RD, 0));
    Due.is("17: EMPTY still", 0, h.walk(RD, 0, 3, 2));
    GranuleHall off = Scene.off().object;
    Due.done("17: of a REALM that is OFF", off, Scene.DATA, off.undata(RD, 5));
  }

  private static void map() {
    GranuleHall h = Scene.tabled().object;
    for (int bad : NO_GRANULES) {
      Due.refused("18: rd " + bad, h, h.map(bad, 2048, Scene.HOST), 1);
      Due.refused("18: granule " + bad, h, h.map(RD, 2048, bad), 1);
    }
    for (int bad : NOT_SHARED) {
      Due.refused("18: page " + bad, h, h.map(RD, bad, Scene.HOST), 1);
    }
    Due.refused("18: no RD", h, h.map(Scene.U3, 2048, Scene.HOST), 2);
    Due.refused("18: LEVEL 2", h, h.map(RD, 2056, Scene.HOST), 5);
    Due.refused("18: LEVEL 0", h, h.map(RD, 4095, Scene.HOST), 5);
    h.unknown(RD, 10, 0);
    int[] anyState = {Scene.HOST, Scene.FREE, RD, Scene.ROOT, 10, Scene.HOST};
    for (int i = 0; i < anyState.length; i++) {
      int state = h.granule(anyState[i], 0);
      Due.done("18: STATE " + state, h, h.map(RD, 2048 + i, anyState[i]));
      Due.is("18: ASSIGNED", 1, h.walk(RD, 2048 + i, 3, 1));
      Due.is("18: EMPTY", 0, h.walk(RD, 2048 + i, 3, 2));
      Due.is("18: to it", anyState[i], h.walk(RD, 2048 + i, 3, 3));
      Due.is("18: its STATE stays", state, h.granule(anyState[i], 0));
    }
    Due.refused("18: ASSIGNED already", h, h.map(RD, 2048, Scene.HOST), 5);
    Due.is("18: no DATA by this", 1, h.realm(RD, 4));
    Due.is("18: nothing is astray by this", 0, h.astray());
    GranuleHall off = Scene.off().object;
    Due.done("18: of a REALM that is OFF", off, off.map(RD, 2048, Scene.HOST));
  }

  private static void unmap() {
    GranuleHall h = Scene.tabled().object;
    h.map(RD, 2050, Scene.HOST);
    h.map(RD, 2051, Scene.FREE);
    Due.refused("19: no such GRANULE", h, h.unmap(-1, 2050), 1);
    Due.refused("19: no such GRANULE", h, h.unmap(48, 2050), 1);
    for (int bad : NOT_SHARED) {
      Due.refused("19: page " + bad, h, h.unmap(RD, bad), 1);
    }
    Due.refused("19: no RD", h, h.unmap(Scene.HOST, 2050), 2);
    Due.refused("19: UNASSIGNED", h, h.unmap(RD, 2049), 5);
    Due.refused("19: UNASSIGNED, LEVEL 0", h, h.unmap(RD, 4095), 5);
    h.store(Scene.HOST, 3, 7);
    Due.done("19: unmap", h, Scene.HOST, h.unmap(RD, 2050));
    Due.is("19: UNASSIGNED", 0, h.walk(RD, 2050, 3, 1));
    Due.is("19: EMPTY", 0, h.walk(RD, 2050, 3, 2));
    Due.is("19: its WORDS stay", 7, h.load(Scene.HOST, 3));
    Due.done("19: a DELEGATED one", h, Scene.FREE, h.unmap(RD, 2051));
    Due.is("19: its STATE stays", 1, h.granule(Scene.FREE, 0));
    Due.refused("19: unmapped already", h, h.unmap(RD, 2050), 5);
  }
}
