/** Promises 1 to 5: a new object, and the host's WORDS and GRANULES. */
final class MemoryTest {
  public static void main(String[] args) {
    newObject();
    loadAndStore();
    delegateAndUndelegate();
    wordsAreLost();
    Due.end("MemoryTest");
  }

  private static void newObject() {
    int[][] sizes = {
      {16, 16}, {96, 96}, {17, 17}, {95, 95}, {32, 32}, {50, 50},
      {15, 32}, {97, 32}, {0, 32}, {-1, 32}, {-16, 32}, {Integer.MIN_VALUE, 32}, {Integer.MAX_VALUE, 32}
    };
    for (int[] size : sizes) {
      GranuleHall h = new GranuleHall(size[0]);
      String what = "1: GranuleHall(" + size[0] + ")";
      Due.is(what + ".count(0)", size[1], h.count(0));
      Due.is(what + ".count(1)", size[1], h.count(1));
      Due.is(what + ".granule(last, 0)", 0, h.granule(size[1] - 1, 0));
      Due.is(what + ".granule(behind, 0)", -1, h.granule(size[1], 0));
      Due.is(what + ".status()", 0, h.status());
      Due.is(what + ".count(7)", -1, h.count(7));
      Due.is(what + ".count(8)", 0, h.count(8));
      Due.is(what + ".count(9)", 0, h.count(9));
      Due.is(what + ".count(10)", 0, h.count(10));
      Due.is(what + ".astray()", 0, h.astray());
      for (int g = 0; g < size[1]; g++) {
        Due.is(what + ".load(" + g + ", 31)", 0, h.load(g, 31));
      }
    }
  }

  private static void loadAndStore() {
    GranuleHall h = new GranuleHall(16);
    Due.done("3: store(15, 31, MIN)", h, h.store(15, 31, Integer.MIN_VALUE));
    Due.done("3: store(15, 0, -1)", h, h.store(15, 0, -1));
    Due.done("2: load(15, 31)", h, Integer.MIN_VALUE, h.load(15, 31));
    Due.done("2: load(15, 30)", h, 0, h.load(15, 30));
    Due.done("2: load(14, 31)", h, 0, h.load(14, 31));
    for (int bad : new int[] {-1, 16, Integer.MIN_VALUE, Integer.MAX_VALUE}) {
      Due.refused("2: load(" + bad + ", 0)", h, h.load(bad, 0), 1);
      Due.refused("3: store(" + bad + ", 0, 1)", h, h.store(bad, 0, 1), 1);
    }
    for (int bad : new int[] {-1, 32, Integer.MIN_VALUE, Integer.MAX_VALUE}) {
      Due.refused("2: load(0, " + bad + ")", h, h.load(0, bad), 1);
      Due.refused("3: store(0, " + bad + ", 1)", h, h.store(0, bad, 1), 1);
    }
    Due.done("2: load(15, 0) answers -1 and is done", h, -1, h.load(15, 0));
    h.delegate(3);
    Due.refused("2: load of a DELEGATED one", h, h.load(3, 0), 2);
    Due.refused("3: store to a DELEGATED one", h, h.store(3, 0, 1), 2);
    Due.refused("2: word ahead of STATE", h, h.load(3, 32), 1);
    Due.refused("3: word ahead of STATE", h, h.store(3, 32, 1), 1);
    GranuleHall all = Scene.running().object;
    for (int g : new int[] {Scene.RD, Scene.REC, Scene.T3, Scene.DATA}) {
      Due.refused("2: load(" + g + ", 0) of a realm", all, all.load(g, 0), 2);
      Due.refused("3: store(" + g + ", 0, 7) to a realm", all, all.store(g, 0, 7), 2);
    }
  }

  private static void delegateAndUndelegate() {
    GranuleHall h = new GranuleHall(16);
    h.load(16, 0);
    Due.done("4: delegate(0)", h, h.delegate(0));
    Due.is("4: it is DELEGATED", 1, h.granule(0, 0));
    Due.refused("4: delegate(0) again", h, h.delegate(0), 2);
    Due.done("5: undelegate(0)", h, h.undelegate(0));
    Due.is("5: it is UNDELEGATED", 0, h.granule(0, 0));
    Due.refused("5: undelegate(0) again", h, h.undelegate(0), 2);
    for (int bad : new int[] {-1, 16, Integer.MIN_VALUE, Integer.MAX_VALUE}) {
      Due.refused("4: delegate(" + bad + ")", h, h.delegate(bad), 1);
      Due.refused("5: undelegate(" + bad + ")", h, h.undelegate(bad), 1);
    }
    GranuleHall all = Scene.running().object;
    for (int g : new int[] {Scene.RD, Scene.REC, Scene.T3, Scene.DATA}) {
      Due.refused("4: delegate(" + g + ") of a realm", all, all.delegate(g), 2);
      Due.refused("5: undelegate(" + g + ") of a realm", all, all.undelegate(g), 2);
    }
  }

  private static void wordsAreLost() {
    GranuleHall h = new GranuleHall(16);
    for (int i = 0; i < 32; i++) {
      h.store(0, i, i + 1);
    }
    h.delegate(0);
    h.undelegate(0);
    Due.words("4: WORDS become 0", Scene.page(), Scene.loaded(h, 0));

    GranuleHall realm = Scene.active().object;
    realm.undata(Scene.RD, 5);
    realm.undelegate(Scene.DATA);
    Due.words("5: nothing of a realm's DATA is left", Scene.page(), Scene.loaded(realm, Scene.DATA));
    realm.end(Scene.REC);
    realm.undelegate(Scene.REC);
    Due.words("5: nothing of a REC is left", Scene.page(), Scene.loaded(realm, Scene.REC));
  }
}
