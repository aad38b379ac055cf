/** Promises 1 to 12: a new object, and the calls that change teams and rounds. */
final class ChangeEdges {
  private static final int[] WRONG = {Made.MIN, -1, Made.MAX};

  private ChangeEdges() {}

  static void run() {
    newObject();
    teams();
    ground();
    swap();
    turn();
    exchange();
    bar();
    rate();
    kind();
    feed();
    read();
    step();
  }

  private static void newObject() {
    Doc.promise(1);
    Doc.says("Four TEAMS, by THE CIRCLE.", () -> {
      HomeRounds x = new HomeRounds();
      Check.due("n", x.told(0), 4);
      Check.due("ROUNDS", Look.rounds(x), Made.CIRCLE_4);
      Check.due("no TEAM 4", x.about(4, 0), -1);
      Check.due("no ROUND 3", x.game(3, 0, 0), -1);
      Check.due("GROUNDS", Look.grounds(x), "0 0 / 0 0 / 0 0 / 0 0");
      Check.due("BARS", Look.bars(x), "");
      Check.due("RATES", Look.rates(x), "10 50 1 0");
      Check.due("KIND", x.told(7), 0);
      Check.due("nothing told", Look.counts(x), "0 0 0 0");
      Check.due("no IMAGE", x.undo(), -3);
      for (int tape = 0; tape < 6; tape++) {
        Check.due("TAPE " + tape, x.item(tape, 0, 0), -11);
      }
      HomeRounds other = Made.full(6);
      Check.due("objects know nothing of each other", Look.at(new HomeRounds()), Look.at(x));
      Check.due("the other one", other.told(0), 6);
    });
  }

  private static void teams() {
    Doc.promise(2);
    Doc.says("n becomes so (also if it stays): ROUNDS are by THE CIRCLE, no BARS; SEEN, EVENTS, "
        + "the BOOK are empty;", () -> {
      for (int n : Made.BOTH) {
        for (int next : Made.BOTH) {
          HomeRounds x = Made.full(n);
          x.teams(next);
          Check.due("n", x.told(0), next);
          Check.due("ROUNDS", Look.rounds(x), next == 4 ? Made.CIRCLE_4 : Made.CIRCLE_6);
          Check.due("BARS", Look.bars(x), "");
          Check.due("how many BARS", x.told(6), 0);
          Check.due("counts but THE TEXT's", Look.counts(x), "0 0 0 15");
          Check.due("FITS of nothing", x.fits(), 7);
          Check.due("AFTER nothing", x.after(2), x.cost());
          Check.due("LOOKED at nothing", x.looked(), -5);
          Check.due("TAPES stay", Look.tape(x, 2), "0 201 402 603 0 0");
          Check.due("THE IMAGE stays", x.undo(), n);
        }
      }
    });
    Doc.says("GROUNDS, RATES, KIND stay:", () -> {
      HomeRounds x = Made.full(6);
      String grounds = Look.grounds(x);
      for (int n : new int[] {6, 4, 4, 6}) {
        x.teams(n);
        Check.due("RATES", Look.rates(x), "10 50 1 7");
        Check.due("KIND", x.told(7), 2);
        String due = n == 6 ? grounds : grounds.substring(0, grounds.indexOf(" / 68 "));
        Check.due("GROUNDS", Look.grounds(x), due);
      }
    });
    Doc.says("what n was.", () -> {
      HomeRounds x = Made.four();
      Check.due("4 again", x.teams(4), 4);
      Check.due("6 behind 4", x.teams(6), 4);
      Check.due("6 again", x.teams(6), 6);
      Check.due("4 behind 6", x.teams(4), 6);
      Check.due("4 then", x.teams(4), 4);
    });
    Doc.says("BAD.", () -> {
      for (int n : new int[] {Made.MIN, -6, -4, -1, 0, 1, 2, 3, 5, 7, 8, 10, 260, Made.MAX}) {
        Check.due("teams(" + n + ")", Made.six().teams(n), -2);
      }
    });
  }

  private static void ground() {
    Doc.promise(3);
    Doc.says("The GROUND of a TEAM comes to x, y: 100 times the x and the y that were.", () -> {
      HomeRounds x = Made.four();
      Check.due("from 0, 0", x.ground(3, 99, 99), 0);
      Check.due("from 99, 99", x.ground(3, 0, 1), 9999);
      Check.due("from 0, 1", x.ground(3, 1, 0), 1);
      Check.due("from 1, 0", x.ground(3, 0, 0), 100);
      Check.due("from 0, 0", x.ground(3, 12, 34), 0);
      Check.due("no other one", Look.grounds(x), "0 0 / 0 0 / 0 0 / 12 34");
      Check.due("TEAM 5", Made.six().ground(5, 1, 2), 0);
    });
    Doc.says("NONE; BAD: x, y.", () -> {
      HomeRounds x = Made.four();
      for (int no : WRONG) {
        Check.due("TEAM " + no, x.ground(no, 1, 1), -1);
        Check.due("x " + no, x.ground(0, no, 1), -2);
        Check.due("y " + no, x.ground(0, 1, no), -2);
      }
      Check.due("TEAM 4", x.ground(4, 1, 1), -1);
      Check.due("TEAM 6", Made.six().ground(6, 1, 1), -1);
      Check.due("x 100", x.ground(0, 100, 1), -2);
      Check.due("y 100", x.ground(0, 1, 100), -2);
      Check.due("NONE ahead of BAD", x.ground(4, 100, 100), -1);
    });
  }

  private static void swap() {
    Doc.promise(4);
    Doc.says("ROUNDS are SWAPPED: all BREAKS then.", () -> {
      HomeRounds x = Made.four();
      Check.due("one twice", x.swap(2, 2), 2);
      // Patterns 101, 100, 011, 010 become 011, 010, 101, 100.
      Check.due("0, 1", x.swap(0, 1), 2);
      Check.due("ROUNDS", Look.rounds(x), "3-1 2-0 / 0-3 1-2 / 2-3 0-1");
      x.turn(0, 0);
      // 0 is 011, 1 is 110, 2 is 101, 3 is 000.
      Check.due("1, 2", x.swap(1, 2), 4);
      Check.due("as told", x.told(1), 4);
      // HAHAH, AAAHH, HHHAA, AAHAH, HHAHA, AHAHA.
      Check.due("BREAKS of six", Made.six().swap(0, 4), 8);
    });
    Doc.says("NONE: r, s.", () -> {
      for (int n : Made.BOTH) {
        HomeRounds x = Made.of(n);
        for (int no : new int[] {Made.MIN, -1, n - 1, n, Made.MAX}) {
          Check.due("r " + no, x.swap(no, 0), -1);
          Check.due("s " + no, x.swap(0, no), -1);
          Check.due("both " + no, x.swap(no, no), -1);
        }
      }
    });
  }

  private static void turn() {
    Doc.promise(5);
    Doc.says("A GAME is TURNED: who is HOME then.", () -> {
      for (int n : Made.BOTH) {
        HomeRounds x = Made.of(n);
        for (int r = 0; r < n - 1; r++) {
          for (int k = 0; k < n / 2; k++) {
            int away = x.game(r, k, 1);
            int home = x.game(r, k, 0);
            Check.due("turn", x.turn(r, k), away);
            Check.due("HOME then", x.game(r, k, 0) * 10 + x.game(r, k, 1), away * 10 + home);
            Check.due("turn again", x.turn(r, k), home);
          }
        }
        Check.due("all as it was", Look.rounds(x), n == 4 ? Made.CIRCLE_4 : Made.CIRCLE_6);
      }
    });
    Doc.says("NONE: r, k.", () -> {
      for (int n : Made.BOTH) {
        HomeRounds x = Made.of(n);
        for (int no : WRONG) {
          Check.due("r " + no, x.turn(no, 0), -1);
          Check.due("k " + no, x.turn(0, no), -1);
        }
        Check.due("r n - 1", x.turn(n - 1, 0), -1);
        Check.due("k n/2", x.turn(0, n / 2), -1);
      }
    });
  }

  private static void exchange() {
    Doc.promise(6);
    Doc.says("TEAMS are EXCHANGED: in which ROUND they meet (one twice: n - 1).", () -> {
      for (int n : Made.BOTH) {
        HomeRounds x = Made.of(n);
        for (int i = 0; i < n; i++) {
          for (int j = 0; j < n; j++) {
            int answer = x.exchange(i, j);
            Check.due("exchange(" + i + ", " + j + ")", answer, i == j ? n - 1 : x.when(i, j));
            Check.due("not " + (n - 1), i == j || answer < n - 1);
          }
        }
      }
      Check.due("0, 1 of four meet in the last", Made.four().exchange(0, 1), 2);
      Check.due("0, 5 of six meet in the first", Made.six().exchange(0, 5), 0);
    });
    Doc.says("NONE: i, j.", () -> {
      for (int n : Made.BOTH) {
        HomeRounds x = Made.of(n);
        for (int no : new int[] {Made.MIN, -1, n, Made.MAX}) {
          Check.due("i " + no, x.exchange(no, 0), -1);
          Check.due("j " + no, x.exchange(0, no), -1);
          Check.due("one twice " + no, x.exchange(no, no), -1);
        }
      }
    });
  }

  private static void bar() {
    Doc.promise(7);
    Doc.says("A BAR is told, or, if there is one, no more: whether there is one then (1, 0).",
        () -> {
      HomeRounds x = Made.six();
      Check.due("told", x.bar(5, 4), 1);
      Check.due("another one", x.bar(0, 0), 1);
      Check.due("no more", x.bar(5, 4), 0);
      Check.due("the other one stays", Look.bars(x), "0@0");
      Check.due("told again", x.bar(5, 4), 1);
      Check.due("both", Look.bars(x), "0@0 5@4");
    });
    Doc.says("NONE: team, r.", () -> {
      for (int n : Made.BOTH) {
        HomeRounds x = Made.of(n);
        for (int no : WRONG) {
          Check.due("TEAM " + no, x.bar(no, 0), -1);
          Check.due("ROUND " + no, x.bar(0, no), -1);
        }
        Check.due("TEAM n", x.bar(n, 0), -1);
        Check.due("ROUND n - 1", x.bar(0, n - 1), -1);
      }
    });
  }

  private static void rate() {
    Doc.promise(8);
    Doc.says("A RATE becomes v: what it was.", () -> {
      HomeRounds x = Made.four();
      int[] first = {10, 50, 1, 0};
      for (int k = 0; k < 4; k++) {
        Check.due("at first", x.rate(k, 99), first[k]);
        Check.due("99", x.rate(k, 0), 99);
        Check.due("0", x.rate(k, 20 + k), 0);
      }
      Check.due("RATES", Look.rates(x), "20 21 22 23");
    });
    Doc.says("NONE; BAD.", () -> {
      HomeRounds x = Made.four();
      for (int no : WRONG) {
        Check.due("RATE " + no, x.rate(no, 1), -1);
        Check.due("v " + no, x.rate(0, no), -2);
      }
      Check.due("RATE 4", x.rate(4, 1), -1);
      Check.due("v 100", x.rate(3, 100), -2);
      Check.due("NONE ahead of BAD", x.rate(4, 100), -1);
    });
  }

  private static void kind() {
    Doc.promise(9);
    Doc.says("KIND becomes so: what it was.", () -> {
      HomeRounds x = Made.four();
      int was = 0;
      for (int kind : new int[] {0, 2, 2, 1, 0, 1, 2, 0}) {
        Check.due("kind(" + kind + ")", x.kind(kind), was);
        Check.due("KIND", x.told(7), kind);
        was = kind;
      }
    });
    Doc.says("BAD.", () -> {
      for (int no : new int[] {Made.MIN, -1, 3, 4, Made.MAX}) {
        Check.due("kind(" + no + ")", Made.four().kind(no), -2);
      }
    });
  }

  private static void feed() {
    Doc.promise(10);
    Doc.says("A sign (0 .. 127) comes behind THE TEXT's: how many it has.", () -> {
      HomeRounds x = Made.four();
      for (int i = 0; i < 100; i++) {
        Check.due("sign " + i, x.feed(i), i + 1);
        Check.due("count(3)", x.count(3), i + 1);
      }
      x.read();
      for (int i = 100; i < 128; i++) {
        Check.due("sign " + i, x.feed(i), i - 99);
      }
      Check.due("they come behind each other", Made.read(Made.four(), "kind 1"), 1);
    });
    Doc.says("BAD;", () -> {
      for (int no : new int[] {Made.MIN, -128, -1, 128, 129, 255, 256, 256 + 65, Made.MAX}) {
        Check.due("feed(" + no + ")", Made.four().feed(no), -2);
      }
    });
    Doc.says("FULL.", () -> {
      HomeRounds x = Made.four();
      for (int i = 1; i <= 100; i++) {
        Check.due("sign " + i, x.feed(0), i);
      }
      Check.due("sign 101", x.feed(0), -4);
      Check.due("and again", x.feed(127), -4);
      Check.due("count(3)", x.count(3), 100);
      Check.due("BAD ahead of FULL", x.feed(128), -2);
      x.read();
      Check.due("room again", x.feed(0), 1);
    });
  }

  private static void read() {
    Doc.promise(11);
    Doc.says("THE TEXT, which is empty then (by a FAULT, too), is a set-up:", () -> {
      HomeRounds x = Made.four();
      Made.read(x, "kind 1");
      Check.due("empty", x.count(3), 0);
      Made.read(x, "kind");
      Check.due("empty by a FAULT", x.count(3), 0);
      Check.due("nothing is left of it", Made.read(x, " 2"), -10);
      Check.due("empty when none was done", Made.read(x, "kind 9") + x.count(3), 0);
      Check.due("read() again", x.read(), -10);
      Check.due("KIND by the first alone", x.told(7), 1);
    });
    Doc.says("how many CLAUSES were done;", () -> {
      Check.due("none", Made.read(Made.four(), "kind 3"), 0);
      Check.due("one", Made.read(Made.four(), "kind 1"), 1);
      Check.due("two of three", Made.read(Made.four(), "kind 1;kind 3;kind 2"), 2);
      Check.due("also what changes nothing",
          Made.read(Made.four(), "kind 0;swap 1 1;rate 0 10"), 3);
    });
    Doc.says("-10 less the FAULT.", () -> {
      Check.due("FAULT 0", Made.read(Made.four(), ""), -10);
      Check.due("FAULT 1", Made.read(Made.four(), "at"), -12);
      String seven = "at 0 11 22;".repeat(7);
      Check.due("FAULT 97", Made.read(Made.four(), seven + "kind 1;kind 1;rate 00"), -10 - 97);
      // The end of THE TEXT, where it is full.
      Check.due("FAULT 100", Made.read(Made.four(), seven + "bar 1 1;kind 1;at 0 11 "), -110);
    });
  }

  /** What is barred is mended GAME by GAME, nothing else costs. */
  private static HomeRounds toMend(int n) {
    HomeRounds x = Made.barsCost(n);
    for (int r = 0; r < n - 1; r++) {
      for (int k = 0; k < n / 2; k++) {
        x.bar(x.game(r, k, 0), r);
      }
    }
    return x;
  }

  private static void step() {
    Doc.promise(12);
    Doc.says("STEPS by a MANNER, n at most (0 .. 50): how many there were.", () -> {
      for (int n : Made.BOTH) {
        int all = n / 2 * (n - 1);
        for (int most : new int[] {0, 1, 2, all - 1, all, all + 1, 50}) {
          HomeRounds x = toMend(n);
          int due = Math.min(most, all);
          Check.due("step(0, " + most + ")", x.step(0, most), due);
          Check.due("VIOLATED behind it", x.told(2), all - due);
          Check.due("what is left", x.step(0, 50), all - due);
          Check.due("nothing is left", x.step(0, 50), 0);
        }
      }
      HomeRounds y = Made.barsCost(6);
      y.bar(4, 4);
      y.bar(0, 2);
      Check.due("step(1, 1)", y.step(1, 1), 1);
      Check.due("VIOLATED", y.told(2), 1);
      Check.due("step(1, 50)", y.step(1, 50), 1);
      Check.due("VIOLATED then", y.told(2), 0);
      y.teams(6);
      y.bar(2, 2);
      y.bar(5, 1);
      Check.due("step(2, 1)", y.step(2, 1), 1);
      Check.due("VIOLATED behind it", y.told(2), 1);
    });
    Doc.says("BAD: manner, n.", () -> {
      for (int no : WRONG) {
        Check.due("manner " + no, toMend(4).step(no, 1), -2);
        Check.due("n " + no, toMend(4).step(0, no), -2);
      }
      Check.due("manner 3", toMend(4).step(3, 0), -2);
      Check.due("n 51", toMend(4).step(2, 51), -2);
      for (int manner = 0; manner < 3; manner++) {
        Check.due("0 is none of these", toMend(4).step(manner, 0), 0);
        Check.due("50 is none of these", toMend(4).step(manner, 50) >= 0);
      }
    });
  }
}
