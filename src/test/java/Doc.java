import java.io.IOException;
import java.nio.file.Files;
import java.nio.file.Path;
import java.util.ArrayList;
import java.util.List;
import java.util.regex.Matcher;
import java.util.regex.Pattern;

/**
 * The document, sentence by sentence: each test says which words it is for, these must stand there,
 * and in the end no word of the Terms and the promises may be without a test.
 */
final class Doc {
  private static final Path PATH = Path.of("..", "shared", "DOC.md");
  private static final int PROMISES = 41;

  // Of the text whose sentences the tests quote. Another text is no fault of the class: it is told,
  // and the quotes are then not held against it.
  private static final int READ = 463254889;

  private static final List<String> texts = new ArrayList<>();
  private static final List<boolean[]> quoted = new ArrayList<>();
  private static boolean isAsRead;
  private static int section;

  private Doc() {}

  static void open() throws IOException {
    String whole = Files.readString(PATH);
    isAsRead = whole.hashCode() == READ;
    if (!isAsRead) {
      System.out.println("the document is not the one whose sentences are quoted: "
          + whole.hashCode());
    }
    keep(between(whole, "## Terms", "## Promise 1:"));
    for (int i = 1; i <= PROMISES; i++) {
      String next = i == PROMISES ? "## Not promised" : "## Promise " + (i + 1) + ":";
      keep(between(whole, "## Promise " + i + ":", next).replaceFirst("^[^`]*`[^`]*`:", ""));
    }
  }

  private static String between(String whole, String from, String to) {
    int start = whole.indexOf(from);
    int end = whole.indexOf(to);
    return start < 0 || end < start ? "" : whole.substring(start + from.length(), end);
  }

  private static void keep(String text) {
    String plain = folded(text.replaceAll("==== [123]|```text|```", ""));
    texts.add(plain);
    quoted.add(new boolean[plain.length()]);
  }

  private static String folded(String text) {
    return text.replaceAll("\\s+", " ").strip();
  }

  static void terms() {
    section = 0;
  }

  static void promise(int number) {
    section = number;
  }

  private static String here() {
    return section == 0 ? "Terms" : "Promise " + section;
  }

  /** Words of the document, and the test that would fail if they did not hold. */
  static void says(String words, Runnable test) {
    Check.about(here() + " \"" + words + "\"");
    int before = Check.looked();
    test.run();
    Check.due("answers were looked at", Check.looked() > before);
    quote(words);
    Check.about("");
  }

  private static void quote(String words) {
    if (!isAsRead) {
      return;
    }
    Matcher places = Pattern.compile(Pattern.quote(folded(words))).matcher(texts.get(section));
    boolean[] marks = quoted.get(section);
    boolean isThere = false;
    while (places.find()) {
      isThere = true;
      if (!marks[places.start()]) {
        java.util.Arrays.fill(marks, places.start(), places.end(), true);
        return;
      }
    }
    Check.due("these words stand there", isThere);
  }

  /** What no test said. */
  static void end() {
    for (int i = 0; isAsRead && i < texts.size(); i++) {
      StringBuilder rest = new StringBuilder();
      for (int k = 0; k < quoted.get(i).length; k++) {
        char sign = texts.get(i).charAt(k);
        rest.append(quoted.get(i)[k] ? ' ' : sign);
      }
      boolean isAll = !Pattern.compile("[A-Za-z0-9]").matcher(rest).find();
      section = i;
      Check.due(here() + ": without a test: " + folded(rest.toString()), isAll);
    }
  }
}
