import java.io.IOException;
import java.nio.file.Files;
import java.nio.file.Path;
import java.util.ArrayList;
import java.util.Arrays;
import java.util.LinkedHashMap;
import java.util.List;
import java.util.Map;
import java.util.regex.Matcher;
import java.util.regex.Pattern;

/** Every sentence of the document's terms and promises is quoted by a case, and every quotation stands in it. */
final class SentencesTest {
  private static final Path DOCUMENT = Path.of("../shared/DOC.md");
  private static final Pattern HEAD = Pattern.compile("^## (?:Promise (\\d+): .*|(.*))$");
  /** What is no sentence of its own, and the one that says what the whole is about. */
  private static final String HEADS = "==== \\d\\.|MEASUREMENTS\\.|A monitor that keeps realms apart .*";
  /** It only says in which order the calls are listed. */
  private static final String NO_EDGE = "Ahead of the calls";

  public static void main(String[] args) throws IOException {
    if (!Files.isReadable(DOCUMENT)) {
      System.out.println("SentencesTest: " + DOCUMENT + " is not here, so that nothing can be compared with it");
      return;
    }
    TermsEdgesTest.cases();
    MeasurementEdgesTest.cases();
    RecEdgesTest.cases();
    HostEdgesTest.cases();
    TableEdgesTest.cases();
    PageEdgesTest.cases();
    EnterEdgesTest.cases();
    ActEdgesTest.cases();
    ToldEdgesTest.cases();
    Map<Integer, List<String>> sentences = sentences();
    Due.is("promises in the document", 40, sentences.keySet().stream().filter(k -> k > 0).count());
    quotationsStand(sentences);
    allAreQuoted(sentences);
    Due.end("SentencesTest");
  }

  private static void quotationsStand(Map<Integer, List<String>> sentences) {
    for (Edge.Case c : Edge.all()) {
      List<String> of = sentences.getOrDefault(c.section(), List.of());
      boolean stands = of.stream().anyMatch(sentence -> sentence.contains(c.quote()));
      Due.yes(Edge.where(c.section()) + " has '" + c.quote() + "'", stands);
    }
  }

  private static void allAreQuoted(Map<Integer, List<String>> sentences) {
    sentences.forEach((section, of) -> {
      for (String sentence : of) {
        boolean quoted = Edge.all().stream()
            .anyMatch(c -> c.section() == section && sentence.contains(c.quote()));
        Due.yes(Edge.where(section) + ", a case quotes '" + sentence + "'", quoted || sentence.startsWith(NO_EDGE));
      }
    });
  }

  private static Map<Integer, List<String>> sentences() throws IOException {
    Map<Integer, StringBuilder> texts = new LinkedHashMap<>();
    StringBuilder text = new StringBuilder();
    for (String line : Files.readAllLines(DOCUMENT)) {
      Matcher head = HEAD.matcher(line);
      if (head.matches()) {
        text = new StringBuilder();
        Integer section = section(head);
        if (section != null) {
          texts.put(section, text);
        }
      } else if (!line.startsWith("```")) {
        text.append(line).append(' ');
      }
    }
    Map<Integer, List<String>> all = new LinkedHashMap<>();
    texts.forEach((section, of) -> all.put(section, split(of.toString())));
    return all;
  }

  private static Integer section(Matcher head) {
    if (head.group(1) != null) {
      return Integer.valueOf(head.group(1));
    }
    switch (head.group(2)) {
      case "What it is": return Edge.WHAT_IT_IS;
      case "Terms": return Edge.TERMS;
      default: return null;
    }
  }

  /** A sentence ends with a full stop that is no part of '..', and with the bracket behind it. */
  private static List<String> split(String text) {
    String plain = text.replaceAll("\\s+", " ").trim().replaceFirst("^`[^`]*`: ", "");
    List<String> sentences = new ArrayList<>(Arrays.asList(plain.split("(?<=[^. ]\\.\\)?) ")));
    sentences.removeIf(s -> s.matches(HEADS));
    return sentences;
  }
}
