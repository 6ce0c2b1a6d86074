import java.io.IOException;
import java.nio.file.Files;
import java.nio.file.Path;
import java.util.regex.Matcher;
import java.util.regex.Pattern;

/** The rules of LANGUAGE.md that a look at the text can tell; the others are for a reader. */
final class LanguageTest {
  private static final String[] FORBIDDEN = {
    "\\bthrow\\b", "\\bthrows\\b", "\\btry\\b", "\\bcatch\\b", "\\bfinally\\b", "\\bsynchronized\\b", "\\bassert\\b",
    "\\bnative\\b", "\\bvolatile\\b", "\\bprotected\\b", "\\bpackage\\b", "->", "::", "@", "\\bstatic\\s*\\{",
    "\\bequals\\b", "\\bhashCode\\b", "\\btoString\\b", "\\bvar\\b", "\\w+Exact\\b", "\"", "\\[\\]\\[\\]\\[\\]"
  };
  private static final int LONGEST_METHOD = 60;

  public static void main(String[] args) throws IOException {
    String text = Files.readString(Path.of("src/main/java/GranuleHall.java"));
    String code = text.replaceAll("(?s)/\\*.*?\\*/", "").replaceAll("//[^\n]*", "");
    for (String forbidden : FORBIDDEN) {
      Due.is("how often the program has " + forbidden, 0, count(code, forbidden));
    }
    int allowed = count(code, "\\bimport\\s+java\\.util\\.(Arrays|ArrayList|List);");
    Due.is("4: imports", allowed, count(code, "\\bimport\\b"));
    Due.is("1: public classes", 1, count(code, "public final class GranuleHall\\b"));
    Due.is("2: classes inside are static", count(code, "\\bstatic final class\\b"), count(code, "\\bclass\\b") - 1);
    Due.yes("11: some twelve classes", count(code, "\\bclass\\b") <= 12);
    Due.is("5: static fields are final",
        0, count(code, "\\bstatic (?!final\\b)[\\w\\[\\]]+ \\w+\\s*[=;]"));
    methodsAreShort(code);
    Due.end("LanguageTest");
  }

  private static int count(String code, String pattern) {
    Matcher matcher = Pattern.compile(pattern).matcher(code);
    int n = 0;
    while (matcher.find()) {
      n++;
    }
    return n;
  }

  /** A method's head ends in ') {' at the depth of a class; its end is the brace in the same column. */
  private static void methodsAreShort(String code) {
    String[] lines = code.split("\n");
    Pattern head = Pattern.compile("( {4}| {8})(?! )[\\w\\[\\]<> ]+\\((.*)\\) \\{");
    for (int i = 0; i < lines.length; i++) {
      Matcher matcher = head.matcher(lines[i]);
      if (!matcher.matches() || lines[i].trim().matches("(if|for|while|switch|do|else)\\b.*")) {
        continue;
      }
      int end = i;
      while (end < lines.length && !lines[end].equals(matcher.group(1) + "}")) {
        end++;
      }
      Due.yes("11: short: " + lines[i].trim(), end - i <= LONGEST_METHOD);
      Due.yes("11: few parameters: " + lines[i].trim(), matcher.group(2).split(",").length <= 7);
    }
  }
}
