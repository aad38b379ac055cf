/** Promises 13 to 25: what is so, and the floats. */
final class AskEdges {
  private static final int[] WRONG = {Made.MIN, -1, Made.MAX};

  private AskEdges() {}

  static void run() {
    game();
    of();
    season();
    when();
    about();
    carried();
    loop();
    told();
    rateOf();
    wear();
    cost();
    would();
    spread();
  }

  private static void game() {
    Doc.promise(13);
    Doc.says("Of a GAME who is HOME (what 0), AWAY (1).", () -> {
      int[][] four = {{0, 3, 1, 2}, {3, 1, 2, 0}, {2, 3, 0, 1}};
      for (int r = 0; r < 3; r++) {
        for (int i = 0; i < 4; i++) {
          Check.due("ROUND " + r, Made.four().game(r, i / 2, i % 2), four[r][i]);
        }
      }
      Check.due("the last of six", Made.six().game(4, 2, 0) * 10 + Made.six().game(4, 2, 1), 21);
    });
    Doc.says("NONE: r, k, what.", () -> {
      for (int n : Made.BOTH) {
        HomeRounds x = Made.of(n);
        for (int no : WRONG) {
          Check.due("r " + no, x.game(no, 0, 0), -1);
          Check.due("k " + no, x.game(0, no, 0), -1);
          Check.due("what " + no, x.game(0, 0, no), -1);
        }
        Check.due("r n - 1", x.game(n - 1, 0, 0), -1);
        Check.due("k n/2", x.game(0, n / 2, 0), -1);
        Check.due("what 2", x.game(0, 0, 2), -1);
      }
    });
  }

  private static void of() {
    Doc.promise(14);
    Doc.says("Of a TEAM in a ROUND whom it meets (what 0), whether it is HOME (1; 1, 0), the GAME "
        + "(2), whether there is a BAR (3).", () -> {
      for (int n : Made.BOTH) {
        HomeRounds x = Made.of(n);
        x.bar(n - 1, n - 2);
        x.turn(1, 0);
        x.exchange(0, 2);
        for (int r = 0; r < n - 1; r++) {
          for (int k = 0; k < n / 2; k++) {
            for (int side = 0; side < 2; side++) {
              int team = x.game(r, k, side);
              Check.due("whom", x.of(team, r, 0), x.game(r, k, 1 - side));
              Check.due("whether HOME", x.of(team, r, 1), 1 - side);
              Check.due("the GAME", x.of(team, r, 2), k);
              Check.due("a BAR", x.of(team, r, 3), team == n - 1 && r == n - 2 ? 1 : 0);
            }
          }
        }
      }
    });
    Doc.says("NONE: team, r, what.", () -> {
      for (int n : Made.BOTH) {
        HomeRounds x = Made.of(n);
        for (int what = 0; what < 4; what++) {
          for (int no : WRONG) {
            Check.due("team " + no, x.of(no, 0, what), -1);
            Check.due("r " + no, x.of(0, no, what), -1);
          }
          Check.due("team n", x.of(n, 0, what), -1);
          Check.due("r n - 1", x.of(0, n - 1, what), -1);
        }
        Check.due("what 4", x.of(0, 0, 4), -1);
        Check.due("what -1", x.of(0, 0, -1), -1);
        Check.due("what MIN", x.of(0, 0, Made.MIN), -1);
        Check.due("what MAX", x.of(0, 0, Made.MAX), -1);
      }
    });
  }

  private static void season() {
    Doc.promise(15);
    Doc.says("Of a TEAM in a ROUND of THE SEASON whom it meets (what 0), whether it is HOME (1).",
        () -> {
      for (int n : Made.BOTH) {
        HomeRounds x = Made.of(n);
        x.turn(n - 2, 1);
        for (int kind = 0; kind < 3; kind++) {
          x.kind(kind);
          int last = n - 2;
          for (int i = 0; i < n; i++) {
            int first = kind == 0 ? 0 : last;
            Check.due("the first of the second half", x.season(i, n - 1, 0), x.of(i, first, 0));
            Check.due("where", x.season(i, n - 1, 1), 1 - x.of(i, first, 1));
            int end = kind == 0 ? last : kind == 1 ? 0 : last - 1;
            Check.due("the last of all", x.season(i, 2 * n - 3, 0), x.of(i, end, 0));
            Check.due("where", x.season(i, 2 * n - 3, 1), 1 - x.of(i, end, 1));
            Check.due("the last of the first half", x.season(i, last, 1), x.of(i, last, 1));
          }
        }
      }
    });
    Doc.says("NONE: team, r (0 .. 2 (n - 1) - 1), what.", () -> {
      for (int n : Made.BOTH) {
        HomeRounds x = Made.of(n);
        for (int what = 0; what < 2; what++) {
          Check.due("the last ROUND", x.season(0, 2 * (n - 1) - 1, what) >= 0);
          Check.due("one behind it", x.season(0, 2 * (n - 1), what), -1);
          Check.due("team n", x.season(n, 0, what), -1);
          for (int no : WRONG) {
            Check.due("team " + no, x.season(no, 0, what), -1);
            Check.due("r " + no, x.season(0, no, what), -1);
          }
        }
        for (int no : new int[] {Made.MIN, -1, 2, 3, Made.MAX}) {
          Check.due("what " + no, x.season(0, 0, no), -1);
        }
      }
    });
  }

  private static void when() {
    Doc.promise(16);
    Doc.says("The ROUND in which two TEAMS meet.", () -> {
      for (int n : Made.BOTH) {
        HomeRounds x = Made.of(n);
        x.swap(0, n - 2);
        for (int i = 0; i < n; i++) {
          for (int j = 0; j < n; j++) {
            int r = x.when(i, j);
            Check.due("they meet there", i == j ? j : x.of(i, r, 0), j);
            Check.due("both ways about", r, x.when(j, i));
          }
        }
      }
      Check.due("the first ROUND", Made.four().when(3, 0), 0);
      Check.due("the last ROUND", Made.six().when(5, 4), 4);
    });
    Doc.says("NONE: i, j, one twice.", () -> {
      for (int n : Made.BOTH) {
        HomeRounds x = Made.of(n);
        for (int no : new int[] {Made.MIN, -1, n, Made.MAX}) {
          Check.due("i " + no, x.when(no, 0), -1);
          Check.due("j " + no, x.when(0, no), -1);
          Check.due("both " + no, x.when(no, no), -1);
        }
        for (int i = 0; i < n; i++) {
          Check.due("one twice " + i, x.when(i, i), -1);
        }
      }
    });
  }

  private static void about() {
    Doc.promise(17);
    Doc.says("Of a TEAM what 0 PATTERN, 1 its BREAKS, 2 OTHER (-5), 3 MILES, 4 x, 5 y of its "
        + "GROUND, 6 its BREAKS in THE SEASON.", () -> {
      HomeRounds x = Made.four();
      x.ground(1, 3, 4);
      int[] due = {1, 1, 2, 7 + 7, 3, 4, 3};
      for (int what = 0; what < 7; what++) {
        Check.due("about(1, " + what + ")", x.about(1, what), due[what]);
      }
      for (int n : Made.BOTH) {
        HomeRounds y = Made.of(n);
        y.turn(1, 1);
        for (int kind = 0; kind < 3; kind++) {
          y.kind(kind);
          for (int i = 0; i < n; i++) {
            int breaks = 0;
            for (int r = 1; r < 2 * (n - 1); r++) {
              breaks += y.season(i, r, 1) == y.season(i, r - 1, 1) ? 1 : 0;
            }
            Check.due("BREAKS in THE SEASON", y.about(i, 6), breaks);
          }
        }
      }
      x.turn(1, 1);
      Check.due("-5", x.about(1, 2), -5);
    });
    Doc.says("NONE.", () -> {
      for (int n : Made.BOTH) {
        HomeRounds x = Made.of(n);
        for (int what = 0; what < 7; what++) {
          for (int no : new int[] {Made.MIN, -1, n, Made.MAX}) {
            Check.due("team " + no, x.about(no, what), -1);
          }
        }
        for (int no : new int[] {Made.MIN, -1, 7, 8, Made.MAX}) {
          Check.due("what " + no, x.about(0, no), -1);
        }
      }
    });
  }

  private static void carried() {
    Doc.promise(18);
    Doc.says("CARRIED.", () -> {
      int[][] due = {{-1, 1, 0, 1}, {1, -1, 1, 0}, {0, 1, -1, 1}, {1, 0, 1, -1}};
      for (int i = 0; i < 4; i++) {
        for (int j = 0; j < 4; j++) {
          Check.due(i + " to " + j, Made.four().carried(i, j), due[i][j]);
        }
      }
    });
    Doc.says("NONE: i, j, one twice.", () -> {
      for (int n : Made.BOTH) {
        HomeRounds x = Made.of(n);
        for (int no : new int[] {Made.MIN, -1, n, Made.MAX}) {
          Check.due("i " + no, x.carried(no, 0), -1);
          Check.due("j " + no, x.carried(0, no), -1);
        }
        for (int i = 0; i < n; i++) {
          Check.due("one twice " + i, x.carried(i, i), -1);
        }
      }
    });
  }

  private static void loop() {
    Doc.promise(19);
    Doc.says("LOOP.", () -> {
      for (int n : Made.BOTH) {
        HomeRounds x = Made.of(n);
        Check.due("of the first and the last", x.loop(0, n - 2, 0), n);
        Check.due("of the last and the first", x.loop(n - 2, 0, n - 1), n);
      }
    });
    Doc.says("NONE: r, s, they are one; team.", () -> {
      for (int n : Made.BOTH) {
        HomeRounds x = Made.of(n);
        for (int no : WRONG) {
          Check.due("r " + no, x.loop(no, 0, 0), -1);
          Check.due("s " + no, x.loop(0, no, 0), -1);
          Check.due("team " + no, x.loop(0, 1, no), -1);
        }
        Check.due("r n - 1", x.loop(n - 1, 0, 0), -1);
        Check.due("s n - 1", x.loop(0, n - 1, 0), -1);
        Check.due("team n", x.loop(0, 1, n), -1);
        for (int r = 0; r < n - 1; r++) {
          Check.due("one twice " + r, x.loop(r, r, 0), -1);
        }
      }
    });
  }

  private static void told() {
    Doc.promise(20);
    Doc.says("What 0 n, 1 all BREAKS, 2 VIOLATED, 3 CARRY, 4 all MILES, 5 MOST WORN, 6 BARS, 7 "
        + "KIND, 8 all BREAKS in THE SEASON, 9 how many BREAKS there are above the least.", () -> {
      HomeRounds x = Made.four();
      x.ground(1, 3, 4);
      x.bar(0, 0);
      x.bar(1, 1);
      x.bar(2, 2);
      x.kind(1);
      x.turn(0, 0);
      // 0 is AAH, 1 HAA, 2 AHH, 3 HHA; WAYS are 7 to and from 1's GROUND alone: of 1 0, 7, 0 and
      // 7 back, of 2 7, 7, 0, of the others none.
      int[] due = {4, 4, 1, 8, 28, 2, 3, 1, 8, 2};
      for (int what = 0; what < 10; what++) {
        Check.due("told(" + what + ")", x.told(what), due[what]);
      }
      for (int n : Made.BOTH) {
        HomeRounds y = Made.apart(n);
        y.turn(2, 1);
        y.kind(2);
        int breaks = 0;
        int miles = 0;
        int inSeason = 0;
        for (int i = 0; i < n; i++) {
          breaks += y.about(i, 1);
          miles += y.about(i, 3);
          inSeason += y.about(i, 6);
        }
        Check.due("n", y.told(0), n);
        Check.due("all BREAKS", y.told(1), breaks);
        Check.due("all MILES", y.told(4), miles);
        Check.due("all BREAKS in THE SEASON", y.told(8), inSeason);
        Check.due("above the least", y.told(9), breaks - n + 2);
      }
    });
    Doc.says("NONE.", () -> {
      for (int no : new int[] {Made.MIN, -1, 10, 11, Made.MAX}) {
        Check.due("told(" + no + ")", Made.four().told(no), -1);
      }
    });
  }

  private static void rateOf() {
    Doc.promise(21);
    Doc.says("RATE.", () -> {
      HomeRounds x = Made.four();
      for (int k = 0; k < 4; k++) {
        x.rate(k, 99 - 33 * k);
        Check.due("rateOf(" + k + ")", x.rateOf(k), 99 - 33 * k);
      }
    });
    Doc.says("NONE.", () -> {
      for (int no : new int[] {Made.MIN, -1, 4, Made.MAX}) {
        Check.due("rateOf(" + no + ")", Made.four().rateOf(no), -1);
      }
    });
  }

  private static void wear() {
    Doc.promise(22);
    Doc.says("Bits of WEAR of a TEAM behind a ROUND.", () -> {
      HomeRounds x = Made.six();
      x.ground(5, 99, 99);
      // 0 goes there in ROUND 0 if it is AWAY.
      x.turn(0, 0);
      float wear = 198 / 3.0f;
      Check.due("behind ROUND 0", x.wear(0, 0), Float.floatToIntBits(wear));
      wear = wear * 0.75f + 198 / 3.0f;
      Check.due("behind ROUND 1", x.wear(0, 1), Float.floatToIntBits(wear));
      for (int r = 2; r < 5; r++) {
        wear = wear * 0.75f;
        Check.due("behind ROUND " + r, x.wear(0, r), Float.floatToIntBits(wear));
      }
      Check.due("none at all", x.wear(1, 0), 0);
    });
    Doc.says("NO.", () -> {
      for (int n : Made.BOTH) {
        HomeRounds x = Made.of(n);
        for (int no : WRONG) {
          Check.due("team " + no, x.wear(no, 0), Made.NO);
          Check.due("r " + no, x.wear(0, no), Made.NO);
        }
        Check.due("team n", x.wear(n, 0), Made.NO);
        Check.due("r n - 1", x.wear(0, n - 1), Made.NO);
      }
    });
  }

  private static void cost() {
    Doc.promise(23);
    Doc.says("Bits of COST.", () -> {
      Check.due("at first", Made.four().cost(), Float.floatToIntBits(1.0f * 2.0f + 0.1f * 8.0f));
      HomeRounds x = Made.four();
      x.rate(0, 0);
      x.rate(2, 0);
      Check.due("nothing costs", x.cost(), 0);
      x.bar(0, 0);
      Check.due("one is VIOLATED", x.cost(), Float.floatToIntBits(5.0f));
      // The dearest there can be: all that is far, by the highest RATES.
      HomeRounds y = Made.six();
      for (int i = 0; i < 6; i++) {
        y.ground(i, i % 2 * 99, i % 2 * 99);
        for (int r = 0; r < 5; r++) {
          y.bar(i, r);
        }
      }
      for (int k = 0; k < 4; k++) {
        y.rate(k, 99);
      }
      float due = 9.9f * y.told(1) + 9.9f * 15.0f;
      due = due + 9.9f * y.told(3);
      due = due + 9.9f * y.told(4);
      Check.due("the dearest", y.cost(), Float.floatToIntBits(due));
    });
  }

  private static void would() {
    Doc.promise(24);
    Doc.says("Bits of COST, were a GAME TURNED.", () -> {
      for (int n : Made.BOTH) {
        HomeRounds x = Made.full(n);
        for (int r = 0; r < n - 1; r++) {
          for (int k = 0; k < n / 2; k++) {
            long would = x.would(r, k);
            x.turn(r, k);
            Check.due("would(" + r + ", " + k + ")", would, x.cost());
            x.turn(r, k);
          }
        }
      }
    });
    Doc.says("NO: r, k.", () -> {
      for (int n : Made.BOTH) {
        HomeRounds x = Made.of(n);
        for (int no : WRONG) {
          Check.due("r " + no, x.would(no, 0), Made.NO);
          Check.due("k " + no, x.would(0, no), Made.NO);
        }
        Check.due("r n - 1", x.would(n - 1, 0), Made.NO);
        Check.due("k n/2", x.would(0, n / 2), Made.NO);
      }
    });
  }

  private static void spread() {
    Doc.promise(25);
    Doc.says("Of SPREAD's bits (doubleToLongBits) the higher 32 (part 0), the lower 32 (1), each "
        + "without a sign (0 and more).", () -> {
      boolean isWithSign = false;
      for (int far = 0; far < 100; far++) {
        HomeRounds x = Made.four();
        x.ground(3, far, 0);
        x.ground(1, 7, 2);
        long bits = Double.doubleToLongBits(Made.spreadByWear(x));
        Check.due("higher, " + far, x.spread(0), bits >>> 32);
        Check.due("lower, " + far, x.spread(1), bits & 0xFFFFFFFFL);
        isWithSign |= (int) bits < 0;
      }
      Check.due("one would be below 0 as an int", isWithSign);
      Check.due("0.0", Made.four().spread(0) + Made.four().spread(1), 0);
    });
    Doc.says("NO: part.", () -> {
      for (int no : new int[] {Made.MIN, -1, 2, 3, Made.MAX}) {
        Check.due("part " + no, Made.apart(4).spread(no), Made.NO);
      }
    });
  }
}
