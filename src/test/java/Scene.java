/**
 * Halls made ready for a test. GRANULES 0 .. 23 are DELEGATED at first and 24 .. 47 stay UNDELEGATED;
 * the REALM's RD is 0, its root 1, and the numbers below say what the others are.
 */
final class Scene {
  static final int SIZE = 48;
  static final int RD = 0;
  static final int ROOT = 1;
  /** RTTS of LEVEL 1 .. 3 for the PAGES 0 .. 7. */
  static final int T1 = 2;
  static final int T2 = 3;
  static final int T3 = 4;
  /** RTTS of LEVEL 1 .. 3 for the PAGES 2048 .. 2055. */
  static final int U1 = 5;
  static final int U2 = 6;
  static final int U3 = 7;
  /** DATA at PAGE 5. */
  static final int DATA = 8;
  static final int REC = 9;
  /** DELEGATED still in every scene. */
  static final int FREE = 20;
  static final int FREE2 = 21;
  /** UNDELEGATED ones. */
  static final int SOURCE = 30;
  static final int PARAMS = 31;
  static final int RUN = 40;
  static final int HOST = 41;

  private Scene() { }

  static GranuleHall delegated() {
    GranuleHall h = new GranuleHall(SIZE);
    for (int i = 0; i < 24; i++) {
      h.delegate(i);
    }
    return h;
  }

  static GranuleHall created() {
    GranuleHall h = delegated();
    h.create(RD, ROOT);
    return h;
  }

  static GranuleHall tabled() {
    GranuleHall h = created();
    h.table(RD, T1, 0, 1);
    h.table(RD, T2, 0, 2);
    h.table(RD, T3, 0, 3);
    h.table(RD, U1, 2048, 1);
    h.table(RD, U2, 2048, 2);
    h.table(RD, U3, 2048, 3);
    return h;
  }

  /** PAGE 5 is RAM with DATA whose word i is 500 + i; PAGE 6 is RAM, UNASSIGNED; a REC with Xi = 100 + i. */
  static GranuleHall furnished() {
    GranuleHall h = tabled();
    h.ripas(RD, 5);
    h.ripas(RD, 6);
    for (int i = 0; i < 32; i++) {
      h.store(SOURCE, i, 500 + i);
    }
    h.data(RD, DATA, 5, SOURCE);
    for (int i = 0; i < 8; i++) {
      h.store(PARAMS, i, 100 + i);
    }
    h.store(PARAMS, 8, 1);
    h.rec(REC, RD, PARAMS);
    return h;
  }

  static GranuleHall active() {
    GranuleHall h = furnished();
    h.activate(RD);
    return h;
  }

  static GranuleHall running() {
    GranuleHall h = active();
    h.enter(REC, RUN);
    return h;
  }

  static GranuleHall off() {
    GranuleHall h = running();
    h.off();
    return h;
  }

  static int[] measurement(GranuleHall h, int rd, int i) {
    int[] words = new int[8];
    for (int k = 0; k < 8; k++) {
      words[k] = h.measured(rd, i, k);
    }
    return words;
  }

  static int[] registers(GranuleHall h, int rec) {
    int[] words = new int[8];
    for (int k = 0; k < 8; k++) {
      words[k] = h.context(rec, k);
    }
    return words;
  }

  static int[] loaded(GranuleHall h, int granule) {
    int[] words = new int[32];
    for (int k = 0; k < 32; k++) {
      words[k] = h.load(granule, k);
    }
    return words;
  }

  /** 32 WORDS that begin with these and are 0 behind them. */
  static int[] page(int... first) {
    int[] words = new int[32];
    System.arraycopy(first, 0, words, 0, first.length);
    return words;
  }
}
