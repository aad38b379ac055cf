/** Counts the answers that are looked at, and tells those that are not as due. */
final class Check {
  private static int looked = 0;
  private static int wrong = 0;
  private static String about = "";

  private Check() {}

  /** What all that follows is about, or nothing. */
  static void about(String what) {
    about = what.isEmpty() ? "" : what + ": ";
  }

  static void due(String call, long got, long want) {
    looked++;
    if (got != want) {
      wrong++;
      System.out.println(about + call + " answered " + got + ", due is " + want);
    }
  }

  static void due(String call, String got, String want) {
    looked++;
    if (!got.equals(want)) {
      wrong++;
      System.out.println(about + call + " is " + got + ", due is " + want);
    }
  }

  static void due(String what, boolean holds) {
    due(what, holds ? 1 : 0, 1);
  }

  static int looked() {
    return looked;
  }

  static void end(String name) {
    System.out.println(name + ": " + looked + " answers looked at, " + wrong + " wrong");
    if (wrong != 0 || looked == 0) {
      System.exit(1);
    }
  }
}
