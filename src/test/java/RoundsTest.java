/** Promises 1 to 12: a new object, and the calls that change teams and rounds. */
public final class RoundsTest {
  private static final int MIN = Integer.MIN_VALUE, MAX = Integer.MAX_VALUE;

  // THE CIRCLE, worked out by hand: HOME and AWAY of each GAME, ROUND by ROUND.
  private static final int[][] CIRCLE_4 = {{0, 3, 1, 2}, {3, 1, 2, 0}, {2, 3, 0, 1}};
  private static final int[][] CIRCLE_6 = {
    {0, 5, 1, 4, 3, 2}, {5, 1, 2, 0, 4, 3}, {2, 5, 3, 1, 0, 4}, {5, 3, 4, 2, 1, 0},
    {4, 5, 0, 3, 2, 1}
  };

  public static void main(String[] args) {
    newObject();
    teams();
    ground();
    swap();
    turn();
    exchange();
    bar();
    rate();
    kind();
    feed();
    readRight();
    readWords();
    readNumbers();
    readEnds();
    readRefused();
    step();
    stepFirstOfLeast();
    stepToTheEnds();
    Check.end("RoundsTest");
  }

  private static HomeRounds six() {
    HomeRounds x = new HomeRounds();
    x.teams(6);
    return x;
  }

  private static void dueRounds(String what, HomeRounds x, int[][] rounds) {
    for (int r = 0; r < rounds.length; r++) {
      for (int k = 0; k < rounds[r].length / 2; k++) {
        for (int side = 0; side < 2; side++) {
          String call = what + ": game(" + r + ", " + k + ", " + side + ")";
          Check.due(call, x.game(r, k, side), rounds[r][2 * k + side]);
        }
      }
    }
  }

  private static int read(HomeRounds x, String text) {
    for (int i = 0; i < text.length(); i++) {
      Check.due("10 feed of " + text, x.feed(text.charAt(i)), i + 1);
    }
    int answer = x.read();
    Check.due("11 THE TEXT is empty behind " + text, x.count(3), 0);
    return answer;
  }

  private static void dueRead(String text, int want) {
    Check.due("11 read() of '" + text + "'", read(new HomeRounds(), text), want);
  }

  private static void newObject() {
    HomeRounds x = new HomeRounds();
    Check.due("1 told(0)", x.told(0), 4);
    dueRounds("1", x, CIRCLE_4);
    int[] rates = {10, 50, 1, 0};
    for (int k = 0; k < 4; k++) {
      Check.due("1 rateOf(" + k + ")", x.rateOf(k), rates[k]);
      Check.due("1 about(" + k + ", 4)", x.about(k, 4), 0);
      Check.due("1 about(" + k + ", 5)", x.about(k, 5), 0);
      Check.due("1 count(" + k + ")", x.count(k), 0);
    }
    Check.due("1 told(6)", x.told(6), 0);
    Check.due("1 told(7)", x.told(7), 0);
    Check.due("1 undo()", x.undo(), -3);
    for (int tape = 0; tape < 6; tape++) {
      Check.due("1 item of TAPE " + tape, x.item(tape, 0, 1), -11);
    }
  }

  private static void teams() {
    HomeRounds x = new HomeRounds();
    for (int n : new int[] {MIN, -4, 0, 2, 3, 5, 7, 8, MAX}) {
      Check.due("2 teams(" + n + ")", x.teams(n), -2);
    }
    dueRounds("2 behind BAD", x, CIRCLE_4);
    Check.due("2 teams(6)", x.teams(6), 4);
    dueRounds("2", x, CIRCLE_6);
    x.ground(5, 12, 34);
    x.rate(2, 77);
    x.kind(2);
    x.turn(1, 1);
    x.bar(3, 4);
    x.see(1, 1, true);
    x.event(0, 12);
    x.book(1, 1);
    x.feed('t');
    Check.due("2 teams(6) again", x.teams(6), 6);
    dueRounds("2 again", x, CIRCLE_6);
    Check.due("2 no BARS", x.told(6), 0);
    Check.due("2 SEEN", x.count(0), 0);
    Check.due("2 EVENTS", x.count(1), 0);
    Check.due("2 the BOOK", x.count(2), 0);
    Check.due("2 THE TEXT stays", x.count(3), 1);
    Check.due("2 RATES stay", x.rateOf(2), 77);
    Check.due("2 KIND stays", x.told(7), 2);
    Check.due("2 teams(4)", x.teams(4), 6);
    dueRounds("2 four", x, CIRCLE_4);
    Check.due("2 no TEAM 4", x.about(4, 0), -1);
    x.teams(6);
    Check.due("2 GROUNDS stay", x.about(5, 4) * 100 + x.about(5, 5), 1234);
  }

  private static void ground() {
    HomeRounds x = new HomeRounds();
    Check.due("3 ground(3, 7, 99)", x.ground(3, 7, 99), 0);
    Check.due("3 ground(3, 99, 0)", x.ground(3, 99, 0), 799);
    Check.due("3 ground(3, 0, 0)", x.ground(3, 0, 0), 9900);
    Check.due("3 ground(4, 0, 0)", x.ground(4, 0, 0), -1);
    Check.due("3 ground(-1, 100, 0)", x.ground(-1, 100, 0), -1);
    Check.due("3 ground(MAX, 0, 0)", x.ground(MAX, 0, 0), -1);
    for (int v : new int[] {MIN, -1, 100, MAX}) {
      Check.due("3 ground(0, " + v + ", 0)", x.ground(0, v, 0), -2);
      Check.due("3 ground(0, 0, " + v + ")", x.ground(0, 0, v), -2);
    }
    Check.due("3 BAD changes nothing", x.ground(0, 1, 1), 0);
    Check.due("3 others stay", x.about(1, 4), 0);
    x.teams(6);
    Check.due("3 ground(5, 1, 2)", x.ground(5, 1, 2), 0);
  }

  private static void swap() {
    HomeRounds x = new HomeRounds();
    // Patterns become AHH, AHA, HAH, HAA: 1 + 0 + 0 + 1.
    Check.due("4 swap(0, 1)", x.swap(0, 1), 2);
    dueRounds("4", x, new int[][] {{3, 1, 2, 0}, {0, 3, 1, 2}, {2, 3, 0, 1}});
    Check.due("4 swap(1, 1)", x.swap(1, 1), 2);
    dueRounds("4 one twice", x, new int[][] {{3, 1, 2, 0}, {0, 3, 1, 2}, {2, 3, 0, 1}});
    Check.due("4 swap(2, 0)", x.swap(2, 0), 2);
    dueRounds("4 back", x, new int[][] {{2, 3, 0, 1}, {0, 3, 1, 2}, {3, 1, 2, 0}});
    for (int r : new int[] {MIN, -1, 3, 4, MAX}) {
      Check.due("4 swap(" + r + ", 0)", x.swap(r, 0), -1);
      Check.due("4 swap(0, " + r + ")", x.swap(0, r), -1);
    }
    x.teams(6);
    Check.due("4 swap(1, 3) of six", x.swap(1, 3), 8);
    Check.due("4 a GAME of ROUND 3", x.game(3, 2, 0), 4);
    Check.due("4 swap(4, 5)", x.swap(4, 5), -1);
  }

  private static void turn() {
    HomeRounds x = new HomeRounds();
    Check.due("5 turn(1, 1)", x.turn(1, 1), 0);
    dueRounds("5", x, new int[][] {{0, 3, 1, 2}, {3, 1, 0, 2}, {2, 3, 0, 1}});
    Check.due("5 of(0, 1, 1)", x.of(0, 1, 1), 1);
    Check.due("5 of(2, 1, 1)", x.of(2, 1, 1), 0);
    Check.due("5 turn(1, 1) again", x.turn(1, 1), 2);
    dueRounds("5 again", x, CIRCLE_4);
    for (int v : new int[] {MIN, -1, 3, MAX}) {
      Check.due("5 turn(" + v + ", 0)", x.turn(v, 0), -1);
      Check.due("5 turn(0, " + v + ")", x.turn(0, v), -1);
    }
    Check.due("5 turn(0, 2)", x.turn(0, 2), -1);
    Check.due("5 turn(0, 2) of six", six().turn(0, 2), 2);
    Check.due("5 turn(4, 0) of six", six().turn(4, 0), 5);
    Check.due("5 turn(0, 3) of six", six().turn(0, 3), -1);
  }

  private static void exchange() {
    HomeRounds x = new HomeRounds();
    x.ground(0, 1, 2);
    x.bar(0, 1);
    Check.due("6 exchange(0, 1)", x.exchange(0, 1), 2);
    dueRounds("6", x, new int[][] {{1, 3, 0, 2}, {3, 0, 2, 1}, {2, 3, 1, 0}});
    Check.due("6 GROUNDS stay", x.about(0, 4), 1);
    Check.due("6 BARS stay", x.of(0, 1, 3), 1);
    Check.due("6 of(0, 0, 2)", x.of(0, 0, 2), 1);
    Check.due("6 of(1, 0, 0)", x.of(1, 0, 0), 3);
    Check.due("6 exchange(3, 2)", x.exchange(3, 2), 2);
    Check.due("6 exchange(2, 2)", x.exchange(2, 2), 3);
    Check.due("6 exchange(5, 5) of six", six().exchange(5, 5), 5);
    Check.due("6 exchange(0, 4) of six", six().exchange(0, 4), 2);
    for (int v : new int[] {MIN, -1, 4, MAX}) {
      Check.due("6 exchange(" + v + ", 0)", x.exchange(v, 0), -1);
      Check.due("6 exchange(0, " + v + ")", x.exchange(0, v), -1);
    }
  }

  private static void bar() {
    HomeRounds x = new HomeRounds();
    Check.due("7 bar(0, 0)", x.bar(0, 0), 1);
    Check.due("7 bar(3, 2)", x.bar(3, 2), 1);
    Check.due("7 told(6)", x.told(6), 2);
    Check.due("7 VIOLATED", x.told(2), 1);
    Check.due("7 bar(0, 0) again", x.bar(0, 0), 0);
    Check.due("7 told(6) again", x.told(6), 1);
    for (int v : new int[] {MIN, -1, 4, MAX}) {
      Check.due("7 bar(" + v + ", 0)", x.bar(v, 0), -1);
      Check.due("7 bar(0, " + v + ")", x.bar(0, v), -1);
    }
    Check.due("7 bar(0, 3)", x.bar(0, 3), -1);
    x.swap(0, 2);
    Check.due("7 BARS stay with numbers", x.of(3, 2, 3), 1);
    Check.due("7 bar(5, 4) of six", six().bar(5, 4), 1);
  }

  private static void rate() {
    HomeRounds x = new HomeRounds();
    Check.due("8 rate(0, 99)", x.rate(0, 99), 10);
    Check.due("8 rate(0, 0)", x.rate(0, 0), 99);
    Check.due("8 rate(3, 7)", x.rate(3, 7), 0);
    Check.due("8 rate(4, 100)", x.rate(4, 100), -1);
    Check.due("8 rate(-1, 0)", x.rate(-1, 0), -1);
    Check.due("8 rate(MIN, 0)", x.rate(MIN, 0), -1);
    for (int v : new int[] {MIN, -1, 100, MAX}) {
      Check.due("8 rate(1, " + v + ")", x.rate(1, v), -2);
    }
    Check.due("8 RATE 1 as it was", x.rateOf(1), 50);
    Check.due("8 RATE 3", x.rateOf(3), 7);
  }

  private static void kind() {
    HomeRounds x = new HomeRounds();
    Check.due("9 kind(2)", x.kind(2), 0);
    Check.due("9 kind(1)", x.kind(1), 2);
    for (int v : new int[] {MIN, -1, 3, MAX}) {
      Check.due("9 kind(" + v + ")", x.kind(v), -2);
    }
    Check.due("9 kind(0)", x.kind(0), 1);
  }

  private static void feed() {
    HomeRounds x = new HomeRounds();
    for (int v : new int[] {MIN, -1, 128, 256, MAX}) {
      Check.due("10 feed(" + v + ")", x.feed(v), -2);
    }
    Check.due("10 feed(0)", x.feed(0), 1);
    Check.due("10 feed(127)", x.feed(127), 2);
    for (int i = 3; i <= 100; i++) {
      Check.due("10 feed of sign " + i, x.feed(';'), i);
    }
    Check.due("10 the sign 101", x.feed(';'), -4);
    Check.due("10 BAD ahead of FULL", x.feed(128), -2);
    Check.due("10 count(3)", x.count(3), 100);
    Check.due("10 read()", x.read(), -10);
    Check.due("10 feed behind read()", x.feed('a'), 1);
  }

  private static void readRight() {
    HomeRounds x = new HomeRounds();
    Check.due("11 all WORDS", read(x, "teams 6;at 0 10 20;at 5 9 0;swap 0 4;turn 2 1;"
        + "swop 1 3;bar 2 2;rate 3 12;rate 0 7;kind 2"), 10);
    Check.due("11 n", x.told(0), 6);
    Check.due("11 x", x.about(0, 4), 10);
    Check.due("11 y", x.about(0, 5), 20);
    Check.due("11 x of one digit", x.about(5, 4), 9);
    Check.due("11 SWAPPED", x.game(0, 0, 0), 4);
    // ROUND 2 GAME 1 is 3 - 1, then 1 - 3, then EXCHANGED.
    Check.due("11 TURNED", x.game(2, 1, 0), 3);
    Check.due("11 EXCHANGED", x.game(4, 1, 0), 3);
    Check.due("11 BAR", x.of(2, 2, 3), 1);
    Check.due("11 RATE", x.rateOf(3), 12);
    Check.due("11 RATE of one digit", x.rateOf(0), 7);
    Check.due("11 KIND", x.told(7), 2);
    Check.due("11 a BAR no more", read(x, "bar 2 2"), 1);
    Check.due("11 no BAR", x.told(6), 0);
    Check.due("11 teams in THE TEXT empties SEEN", x.see(1, 1, true), 1);
    read(x, "teams 6");
    Check.due("11 SEEN is empty", x.count(0), 0);
  }

  private static void readWords() {
    dueRead("", -10);
    dueRead("tea 4", -10);
    dueRead("teamss 4", -10);
    dueRead("teams", -15);
    dueRead("Teams 4", -10);
    dueRead(" teams 4", -10);
    dueRead(";kind 1", -10);
    dueRead("kind 1;", -17);
    dueRead("kind 1;;", -17);
    dueRead("kind 1; kind 1", -17);
    dueRead("kind 1;kin", -17);
    dueRead("kind 1;att 0 1 1", -17);
    dueRead("`", -10);
    dueRead("{", -10);
    dueRead("swap`0 1", -14);
    dueRead("swapz0 1", -10);
    dueRead("bind 1", -10);
    dueRead("kinb 1", -10);
    dueRead("kibd 1", -10);
    dueRead("swap{0 1", -14);
  }

  private static void readNumbers() {
    dueRead("teams4", -15);
    dueRead("teams  4", -16);
    dueRead("teams ", -16);
    dueRead("teams x", -16);
    dueRead("teams -4", -16);
    dueRead("teams 44", -17);
    dueRead("teams 4 ", -17);
    dueRead("teams 4,kind 1", -17);
    dueRead("teams /", -16);
    dueRead("teams :", -16);
    dueRead("swap 0", -16);
    dueRead("swap 0;kind 1", -16);
    dueRead("swap 0 ", -17);
    dueRead("swap 0 11", -18);
    dueRead("swap 00 1", -16);
    dueRead("rate 00 1", -16);
    dueRead("kind 11", -16);
    dueRead("turn 00 1", -16);
    dueRead("turn 0 11", -18);
    dueRead("swop 00 1", -16);
    dueRead("swop 0 11", -18);
    dueRead("bar 00 1", -15);
    dueRead("bar 0 11", -17);
    dueRead("rate 0 99", 1);
    dueRead("rate 0 09", 1);
    dueRead("rate 0 100", -19);
    dueRead("rate 0 ", -17);
    dueRead("at 0 1", -16);
    dueRead("at 0 10 ", -18);
    dueRead("at 0 100 1", -17);
    dueRead("at 0 99 99", 1);
    dueRead("at 0 99 999", -20);
    dueRead("at 00 9 9", -14);
  }

  private static void readEnds() {
    String twelve = "kind 1;kind 2;kind 1;kind 2;kind 1;kind 2;kind 1;kind 2;kind 1;kind 2;kind 1;"
        + "kind 2";
    dueRead(twelve, 12);
    dueRead(twelve + ";", -10 - 83);
    dueRead(twelve + ";kind 1", -10 - 83);
    dueRead(twelve + "x", -10 - 83);
    HomeRounds x = new HomeRounds();
    Check.due("11 a FAULT at the end", read(x, "kind 1;bar 0 0;teams"), -10 - 20);
    Check.due("11 nothing is done by a FAULT", x.told(7) + x.told(6), 0);
  }

  private static void readRefused() {
    HomeRounds x = new HomeRounds();
    Check.due("11 refused ones", read(x, "teams 5;teams 0;kind 3;swap 0 3;turn 0 2;swop 0 4;"
        + "bar 4 0;rate 4 1;at 4 1 1;kind 2"), 1);
    dueRounds("11 refused", x, CIRCLE_4);
    Check.due("11 what isn't refused is done", x.told(7), 2);
    Check.due("11 none is done", read(x, "kind 9"), 0);
    Check.due("11 one behind the other", read(x, "at 5 1 1;teams 6;at 5 2 2"), 2);
    Check.due("11 x behind it", x.about(5, 4), 2);
  }

  private static void step() {
    HomeRounds x = new HomeRounds();
    for (int v : new int[] {MIN, -1, 3, MAX}) {
      Check.due("12 step(" + v + ", 1)", x.step(v, 1), -2);
    }
    for (int v : new int[] {MIN, -1, 51, MAX}) {
      Check.due("12 step(0, " + v + ")", x.step(0, v), -2);
    }
    Check.due("12 step(0, 50) where it is least", x.step(0, 50), 0);
    // Of the six orders by one SWAP none costs less than 2 BREAKS and a CARRY of 8.
    Check.due("12 step(1, 50)", x.step(1, 50), 0);
    dueRounds("12 nothing done", x, CIRCLE_4);
    x.turn(0, 0);
    x.turn(2, 1);
    Check.due("12 step(0, 0)", x.step(0, 0), 0);
    Check.due("12 BREAKS as they were", x.told(1), 4);
    Check.due("12 step(0, 1)", x.step(0, 1), 1);
    Check.due("12 step(0, 50) then", x.step(0, 50), 0);
    Check.due("12 BREAKS then", x.told(1), 2);
  }

  /** With BARS alone costing, of what is alike good the first is done. */
  private static void stepFirstOfLeast() {
    HomeRounds x = new HomeRounds();
    x.rate(0, 0);
    x.rate(2, 0);
    x.bar(1, 0);
    x.bar(2, 1);
    Check.due("12 step(0, 1) of two", x.step(0, 1), 1);
    dueRounds("12 the first ROUND's", x, new int[][] {{0, 3, 2, 1}, {3, 1, 2, 0}, {2, 3, 0, 1}});
    Check.due("12 step(0, 2) of one", x.step(0, 2), 1);
    dueRounds("12 the second's", x, new int[][] {{0, 3, 2, 1}, {3, 1, 0, 2}, {2, 3, 0, 1}});
    x.teams(4);
    x.bar(0, 0);
    // TEAM 0 is HOME in 0 and 2, so only 0 with 1 helps.
    Check.due("12 step(1, 5)", x.step(1, 5), 1);
    dueRounds("12 SWAPPED", x, new int[][] {{3, 1, 2, 0}, {0, 3, 1, 2}, {2, 3, 0, 1}});
    x.teams(4);
    x.bar(0, 0);
    // 1 is HOME in ROUND 0 too: the first to help is 0 with 2.
    Check.due("12 step(2, 5)", x.step(2, 5), 1);
    dueRounds("12 EXCHANGED", x, new int[][] {{2, 3, 1, 0}, {3, 1, 0, 2}, {0, 3, 2, 1}});
    x.teams(4);
    x.rate(1, 0);
    x.bar(0, 0);
    Check.due("12 what costs no less isn't done", x.step(0, 50), 0);
  }

  /** What alone helps is the last, and a GAME 0. */
  private static void stepToTheEnds() {
    HomeRounds x = new HomeRounds();
    x.rate(0, 0);
    x.rate(2, 0);
    x.bar(2, 2);
    Check.due("12 step(0, 5) of GAME 0", x.step(0, 5), 1);
    dueRounds("12 GAME 0", x, new int[][] {{0, 3, 1, 2}, {3, 1, 2, 0}, {3, 2, 0, 1}});
    x.teams(4);
    // 0 is HOME in ROUNDS 0 and 2, so only 1 comes in for 2.
    x.bar(0, 2);
    Check.due("12 step(1, 5) of the last ROUND", x.step(1, 5), 1);
    dueRounds("12 the last ROUND", x, new int[][] {{0, 3, 1, 2}, {2, 3, 0, 1}, {3, 1, 2, 0}});
    x.teams(4);
    // 2 is HOME in 1 and 2, 3 in 1 alone: only 3 for 2 makes it less.
    x.bar(2, 2);
    x.bar(0, 2);
    x.bar(1, 2);
    Check.due("12 VIOLATED ahead", x.told(2), 2);
    Check.due("12 step(2, 5) of the last TEAM", x.step(2, 5), 1);
    Check.due("12 VIOLATED behind", x.told(2), 1);
    dueRounds("12 the last TEAM", x, new int[][] {{3, 0, 1, 2}, {0, 1, 2, 3}, {2, 0, 3, 1}});
  }
}
