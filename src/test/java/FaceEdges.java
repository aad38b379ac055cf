import java.io.IOException;
import java.io.UncheckedIOException;
import java.nio.file.Files;
import java.nio.file.Path;

/** What the Terms say of the interface, and that an object lasts for 512 calls. */
final class FaceEdges {
  private static final String[][] PARTS = {
    {"teams, rounds", "teams", "ground", "swap", "turn", "exchange", "bar", "rate", "kind", "feed",
        "read", "step"},
    {"what is so", "game", "of", "season", "when", "about", "carried", "loop", "told", "rateOf"},
    {"floats", "wear", "cost", "would", "spread"},
    {"seen, odds", "see", "fits", "odds", "mean"},
    {"events, books", "event", "after", "book", "looked"},
    {"judging, the image, tapes", "judge", "image", "undo", "count", "tape", "item", "peek",
        "shift"}
  };

  private FaceEdges() {}

  static void run() {
    Doc.terms();
    for (String[] part : PARTS) {
      StringBuilder words = new StringBuilder("Ahead of the calls ");
      for (int i = 1; i < part.length; i++) {
        words.append(i == 1 ? "`" : ", `").append(part[i]).append('`');
      }
      words.append(" the interface says: ---- ").append(part[0]).append('.');
      Doc.says(words.toString(), () -> dueAhead(part));
    }
    Check.about("An object is used for at most 512 calls");
    lasts();
    Check.about("");
  }

  private static void dueAhead(String[] part) {
    try {
      String text = Files.readString(Path.of("src", "main", "java", "HomeRounds.java"));
      int start = text.indexOf("// ---- " + part[0] + "\n");
      Check.due("it says so", start >= 0);
      int end = text.indexOf("// ---- ", start + 1);
      for (int i = 1; i < part.length; i++) {
        int call = text.indexOf(" " + part[i] + "(", text.indexOf("public", start));
        Check.due(part[i] + " stands behind it", call > start && call < end);
      }
    } catch (IOException e) {
      throw new UncheckedIOException(e);
    }
  }

  /** The last of 512 calls is answered like the first, whichever of the calls they are. */
  private static void lasts() {
    HomeRounds x = Made.four();
    for (int call = 1; call <= 512; call++) {
      Check.due("turn, call " + call, x.turn(0, 0), call % 2 == 1 ? 3 : 0);
    }
    HomeRounds y = Made.four();
    for (int call = 1; call <= 511; call++) {
      y.tape(0, 3, 60);
    }
    Check.due("the call 512", y.peek(0, 59), 0);
    HomeRounds z = Made.apart(6);
    for (int call = 8; call < 512; call++) {
      z.image();
    }
    Check.due("the call 512", z.undo(), 6);
  }
}
