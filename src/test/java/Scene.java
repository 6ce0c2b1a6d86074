/**
 * Halls made ready for a test. GRANULES 0 .. 23 are DELEGATED at first and 24 .. 47 stay UNDELEGATED;
 * the REALM's RD is 0, its root 1, and the numbers below say what the others are.
 */
final class Scene {
  static final int SIZE = 48;
  static final int RD = 0;
  static final int ROOT = 1;
  /** RTTS of LEVEL 1 .. 3 for the PAGES 0 .. 7. */
  static final int T1 = 2;
  static final int T2 = 3;
  static final int T3 = 4;
  /** RTTS of LEVEL 1 .. 3 for the PAGES 2048 .. 2055. */
  static final int U1 = 5;
  static final int U2 = 6;
  static final int U3 = 7;
  /** DATA at PAGE 5. */
  static final int DATA = 8;
  static final int REC = 9;
  /** Of crowd() alone: a second REC, one that is not RUNNABLE, and a second REALM with a REC of its own. */
  static final int REC2 = 10;
  static final int IDLE = 11;
  static final int RD2 = 18;
  static final int ROOT2 = 19;
  static final int REC3 = 22;
  /** Of ends() alone: RTTS of LEVEL 1 .. 3 for the PAGES 2040 .. 2047, and for 4088 .. 4095. */
  static final int E1 = 12;
  static final int E2 = 13;
  static final int E3 = 14;
  static final int F1 = 15;
  static final int F2 = 16;
  static final int F3 = 17;
  /** DELEGATED still in every scene. */
  static final int FREE = 20;
  static final int FREE2 = 21;
  /** UNDELEGATED ones. */
  static final int SOURCE = 30;
  static final int PARAMS = 31;
  static final int RUN = 40;
  static final int HOST = 41;
  /** A GRANULE of each STATE, once the scene is furnished. */
  static final int[] OF_STATE = {HOST, FREE, RD, REC, T3, DATA};

  private Scene() { }

  static Hall delegated() {
    Hall h = new Hall(SIZE);
    for (int i = 0; i < 24; i++) {
      h.with("delegate", i);
    }
    return h;
  }

  static Hall created() {
    return delegated().with("create", RD, ROOT);
  }

  static Hall tabled() {
    Hall h = created();
    h.with("table", RD, T1, 0, 1).with("table", RD, T2, 0, 2).with("table", RD, T3, 0, 3);
    return h.with("table", RD, U1, 2048, 1).with("table", RD, U2, 2048, 2).with("table", RD, U3, 2048, 3);
  }

  /** PAGE 5 is RAM with DATA whose word i is 500 + i; PAGE 6 is RAM, UNASSIGNED; a REC with Xi = 100 + i. */
  static Hall furnished() {
    Hall h = tabled().with("ripas", RD, 5).with("ripas", RD, 6);
    for (int i = 0; i < 32; i++) {
      h.with("store", SOURCE, i, 500 + i);
    }
    h.with("data", RD, DATA, 5, SOURCE);
    for (int i = 0; i < 8; i++) {
      h.with("store", PARAMS, i, 100 + i);
    }
    return h.with("store", PARAMS, 8, 1).with("rec", REC, RD, PARAMS);
  }

  static Hall active() {
    return furnished().with("activate", RD);
  }

  static Hall running() {
    return active().with("enter", REC, RUN);
  }

  static Hall off() {
    return running().with("off");
  }

  /** Two REALMS that are ACTIVE, four RECS, of which one is not RUNNABLE. */
  static Hall crowd() {
    Hall h = furnished().with("rec", REC2, RD, PARAMS);
    h.with("create", RD2, ROOT2).with("rec", REC3, RD2, PARAMS).with("activate", RD2);
    return h.with("store", PARAMS, 8, 0).with("rec", IDLE, RD, PARAMS).with("activate", RD);
  }

  /** The last PAGES that are PROTECTED, and the last of all, are of LEVEL 3 too. */
  static Hall ends() {
    Hall h = tabled().with("table", RD, E1, 1536, 1).with("table", RD, E2, 1984, 2).with("table", RD, E3, 2040, 3);
    return h.with("table", RD, F1, 3584, 1).with("table", RD, F2, 4032, 2).with("table", RD, F3, 4088, 3);
  }

  /**
   * A REC runs. LEAVES of LEVEL 3: PAGE 0 UNASSIGNED, EMPTY, 1 ASSIGNED, EMPTY, 2 UNASSIGNED, RAM, 3 ASSIGNED, RAM,
   * 4 UNASSIGNED, DESTROYED, 5 ASSIGNED, DESTROYED. EMPTY, RAM, DESTROYED of LEVEL 2: 8, 16, 24, of LEVEL 1: 64, 128,
   * 192, of LEVEL 0: 512, 1024, 1536. PAGE 2048 + k is mapped to a GRANULE of STATE k, 2054 is UNASSIGNED.
   */
  static Hall reaching() {
    Hall h = tabled();
    for (int page : new int[] {2, 3, 4, 5, 16, 128, 1024}) {
      h.with("ripas", RD, page);
    }
    for (int page : new int[] {1, 3, 4, 5}) {
      h.with("unknown", RD, 10 + page, page);
    }
    h.with("undata", RD, 4).with("undata", RD, 5).with("unknown", RD, 15, 5);
    h.with("table", RD, FREE, 24, 3).with("untable", RD, 24, 3);
    h.with("table", RD, FREE, 192, 2).with("untable", RD, 192, 2);
    h.with("table", RD, FREE, 1536, 1).with("untable", RD, 1536, 1);
    h.with("store", PARAMS, 8, 1).with("rec", REC, RD, PARAMS);
    int[] ofState = {HOST, FREE, RD, REC, T3, 13};
    for (int state = 0; state < ofState.length; state++) {
      h.with("map", RD, 2048 + state, ofState[state]);
    }
    return h.with("activate", RD).with("enter", REC, RUN);
  }

  static int[] measurement(GranuleHall h, int rd, int i) {
    int[] words = new int[8];
    for (int k = 0; k < 8; k++) {
      words[k] = h.measured(rd, i, k);
    }
    return words;
  }

  static int[] registers(GranuleHall h, int rec) {
    int[] words = new int[8];
    for (int k = 0; k < 8; k++) {
      words[k] = h.context(rec, k);
    }
    return words;
  }

  static int[] loaded(GranuleHall h, int granule) {
    int[] words = new int[32];
    for (int k = 0; k < 32; k++) {
      words[k] = h.load(granule, k);
    }
    return words;
  }

  /** 32 WORDS that begin with these and are 0 behind them. */
  static int[] page(int... first) {
    int[] words = new int[32];
    System.arraycopy(first, 0, words, 0, first.length);
    return words;
  }
}
