import java.io.IOException;
import java.nio.file.Files;
import java.nio.file.Path;
import java.util.List;
import java.util.regex.Matcher;
import java.util.regex.Pattern;

/** LANGUAGE.md, as far as the text of the program shows it. Runs at the root of the project. */
public final class LanguageTest {
  private static final List<String> RULED_OUT = List.of(
      "\\bpackage\\b", "->", "::", "\\bcatch\\b", "\\btry\\b", "\\bthrow\\b", "\\bthrows\\b",
      "\\bfinally\\b", "\\bsynchronized\\b", "\\bassert\\b", "\\bvolatile\\b", "\\bnative\\b",
      "\\bprotected\\b", "\\bstatic\\s*\\{", "\\bThread\\b", "\\bRandom\\b", "\\bObject\\b",
      "\\bFloat\\b", "\\bDouble\\b", "\\bStrictMath\\b", "\\bFile", "\\w+Exact\\b",
      "\\bordinal\\b", "\\bhashCode\\b", "\\btoString\\b", "\\bgetClass\\b", "\\bprint",
      "\\bnew\\s+String\\b", "\\bvar\\b", "@");
  private static final List<String> LIBRARY = List.of(
      "Math.abs", "System.arraycopy", "Arrays.fill", "Word.values", "Long.MIN_VALUE");

  public static void main(String[] args) throws IOException {
    Path path = Path.of("src", "main", "java", "HomeRounds.java");
    String whole = Files.readString(path);
    Check.due("the program is one file",
        Files.list(path.getParent()).filter(p -> p.toString().endsWith(".java")).count(), 1);
    Check.due("signs 1 to 127", whole.chars().allMatch(c -> c > 0 && c < 128));
    String code = bare(whole);
    for (String pattern : RULED_OUT) {
      Check.due("ruled out: " + pattern, !Pattern.compile(pattern).matcher(code).find());
    }
    imports(code);
    library(code);
    statics(code);
    sizes(code);
    Check.end("LanguageTest");
  }

  /** The program without its comments, and with its texts and signs emptied. */
  private static String bare(String whole) {
    String code = whole.replaceAll("(?s)/\\*.*?\\*/", "").replaceAll("//[^\n]*", "");
    return code.replaceAll("\"[^\"\n]*\"", "\"\"").replaceAll("'[^'\n]*'", "' '");
  }

  private static void imports(String code) {
    Matcher all = Pattern.compile("import ([^;]*);").matcher(code);
    while (all.find()) {
      Check.due("import " + all.group(1), List.of("java.util.Arrays", "java.util.ArrayList",
          "java.util.List").contains(all.group(1)));
    }
  }

  /** Whatever is called by the name of a type. */
  private static void library(String code) {
    Matcher all = Pattern.compile("\\b[A-Z][a-z]\\w*\\.\\w+").matcher(
        code.replaceAll("import [^;]*;", ""));
    while (all.find()) {
      Check.due("library: " + all.group(), LIBRARY.contains(all.group()));
    }
  }

  private static void statics(String code) {
    for (String line : code.split("\n")) {
      boolean isField = line.contains("static") && !line.contains("(") && line.contains("=");
      Check.due("static and not final: " + line, !isField || line.contains("final"));
    }
  }

  private static void sizes(String code) {
    int classes = 0;
    Matcher types = Pattern.compile("\\b(class|enum|record|interface)\\s+[A-Z]").matcher(code);
    while (types.find()) {
      classes++;
    }
    Check.due("classes: " + classes, classes <= 12);
    Pattern head = Pattern.compile("^ {4,8}(\\w[\\w\\[\\] ]* )?\\w+\\(([^)]*)\\) \\{$");
    String[] lines = code.split("\n");
    int methods = 0;
    for (int i = 0; i < lines.length; i++) {
      Matcher method = head.matcher(lines[i]);
      if (!method.matches()) {
        continue;
      }
      methods++;
      String indent = lines[i].substring(0, lines[i].length() - lines[i].stripLeading().length());
      int end = i;
      while (end < lines.length && !lines[end].equals(indent + "}")) {
        end++;
      }
      Check.due("lines of " + lines[i].strip(), end - i <= 60);
      Check.due("parameters of " + lines[i].strip(), method.group(2).split(",").length <= 7);
    }
    Check.due("methods were found", methods > 40);
  }
}
