import java.io.IOException;
import java.nio.file.Files;
import java.nio.file.Path;
import java.util.ArrayList;
import java.util.List;
import java.util.stream.Stream;

/** README.md's examples are the lines below and answer what it says; it names every call and every test. */
final class ReadmeTest {
  private static final Path README = Path.of("README.md");
  private static final Path TESTS = Path.of("src/test/java");

  public static void main(String[] args) throws IOException {
    aContextComesOut();
    aPageWithContent();
    String readme = Files.readString(README);
    examplesAreThese(readme);
    for (String call : FaceTest.FACE) {
      String name = call.replaceAll("^\\w+ |\\(.*", "");
      Due.yes("README.md has the call " + name, readme.contains("`" + name + "("));
    }
    try (Stream<Path> files = Files.list(TESTS)) {
      files.map(file -> file.getFileName().toString().replace(".java", ""))
          .filter(name -> name.endsWith("Test"))
          .forEach(name -> Due.yes("README.md has the test " + name, readme.contains("| " + name + " |")));
    }
    Due.end("ReadmeTest");
  }

  private static void aContextComesOut() {
    GranuleHall hall = new GranuleHall(32);
    for (int g = 0; g < 3; g++) hall.delegate(g);
    hall.create(0, 1);
    hall.store(10, 8, 1);
    int number = hall.rec(2, 0, 10);
    hall.activate(0);
    hall.enter(2, 11);
    hall.move(0, 42);
    Due.is("X0", 42, hall.context(2, 0));
    int answer = hall.yield1();
    int reason = hall.load(11, 0);
    Due.is("number", 0, number);
    Due.is("answer", 2, answer);
    Due.is("reason", 1, reason);
  }

  private static void aPageWithContent() {
    GranuleHall hall = new GranuleHall(32);
    for (int g = 0; g < 7; g++) hall.delegate(g);
    hall.create(0, 1);
    for (int level = 1; level <= 3; level++) hall.table(0, 1 + level, 0, level);
    int span = hall.ripas(0, 5);
    hall.store(10, 1, 123);
    hall.data(0, 5, 5, 10);
    hall.store(10, 8, 1);
    hall.rec(6, 0, 10);
    hall.activate(0);
    int late = hall.ripas(0, 6);
    int why = hall.status();
    hall.enter(6, 11);
    hall.fetch(3, 5, 1);
    Due.is("X3", 123, hall.context(6, 3));
    int empty = hall.fetch(3, 6, 1);
    int called = hall.call(5);
    int told = hall.load(11, 1);
    hall.store(11, 1, 124);
    hall.enter(6, 11);
    hall.fetch(3, 5, 1);
    Due.is("X3, as the host has answered", 124, hall.context(6, 3));
    hall.attest(5);
    hall.fetch(3, 5, 0);
    Due.is("X3, a token's first word", 0x544f4b31, hall.context(6, 3));
    hall.off();
    hall.end(6);
    int freed = hall.undata(0, 5);
    for (int level = 3; level >= 1; level--) hall.untable(0, 0, level);
    boolean ended = hall.destroy(0);
    Due.is("span", 1, span);
    Due.is("late", GranuleHall.NONE, late);
    Due.is("why", 3, why);
    Due.is("empty", 1, empty);
    Due.is("called", 2, called);
    Due.is("told", 123, told);
    Due.is("freed", 5, freed);
    Due.yes("ended", ended);
  }

  /** Every line of an example stands above, in the same order. */
  private static void examplesAreThese(String readme) throws IOException {
    List<String> own = new ArrayList<>();
    for (String line : Files.readAllLines(TESTS.resolve("ReadmeTest.java"))) {
      own.add(line.trim());
    }
    String[] parts = readme.split("```(?:java)?\n");
    Due.is("README.md's examples", 2, parts.length / 2);
    int at = 0;
    for (int i = 1; i < parts.length; i += 2) {
      for (String line : parts[i].split("\n")) {
        String code = line.replaceAll("//.*", "").trim();
        int found = own.subList(at, own.size()).indexOf(code);
        Due.yes("ReadmeTest has, in this order: " + code, found >= 0);
        at += Math.max(found, 0);
      }
    }
  }
}
