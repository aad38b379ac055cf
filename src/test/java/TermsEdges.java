/** The Terms of the document, section 1: teams, rounds, what hangs on them. */
final class TermsEdges {
  private TermsEdges() {}

  static void run() {
    Doc.terms();
    Doc.says("TEAMS 0 .. n - 1", TermsEdges::teams);
    Doc.says("n being 4 or 6 (4 at first)", TermsEdges::numberOfTeams);
    Doc.says("each with a GROUND at x, y (0 .. 99; 0, 0 at first)", TermsEdges::grounds);
    Doc.says("ROUNDS 0 .. n - 2", TermsEdges::rounds);
    Doc.says("each with GAMES 0 .. n/2 - 1: who is HOME, who AWAY", TermsEdges::games);
    circle();
    changes();
    patterns();
    bars();
    carried();
    ways();
    wearAndCost();
  }

  /** That a TEAM below 0 or beyond n - 1 is none, the last one is one, whatever is called. */
  private static void teams() {
    for (int n : Made.BOTH) {
      int last = n - 1;
      for (int no : new int[] {-1, n, Made.MIN, Made.MAX}) {
        noTeam(Made.of(n), no);
      }
      HomeRounds x = Made.of(n);
      Check.due("ground", x.ground(last, 1, 2), 0);
      Check.due("exchange", x.exchange(last, last), last);
      Check.due("bar", x.bar(last, 0), 1);
      Check.due("of", x.of(last, 0, 0), 0);
      Check.due("season", x.season(last, 0, 0), 0);
      Check.due("when", x.when(last, 0) * 10 + x.when(0, last), 0);
      Check.due("about", x.about(last, 4), 1);
      Check.due("carried", x.carried(last, 1) >= 0 && x.carried(1, last) >= 0);
      Check.due("loop", x.loop(0, 1, last), n);
      Check.due("wear", x.wear(last, 0) > 0);
      Check.due("odds", x.odds(last, 1) > 0);
      Check.due("see", x.see(last, 0, true), 1);
      Check.due("event", x.event(2, 10 * last + last), 1);
      Check.due("book", x.book(last, 0), 1);
      Check.due("judge", x.judge(last, 0, 0), 100);
    }
  }

  private static void noTeam(HomeRounds x, int no) {
    x.see(0, 0, true);
    x.book(0, 0);
    Check.due("ground of " + no, x.ground(no, 1, 2), -1);
    Check.due("exchange of " + no, x.exchange(no, 0) + x.exchange(0, no), -2);
    Check.due("bar of " + no, x.bar(no, 0), -1);
    Check.due("of of " + no, x.of(no, 0, 0), -1);
    Check.due("season of " + no, x.season(no, 0, 0), -1);
    Check.due("when of " + no, x.when(no, 0) + x.when(0, no), -2);
    Check.due("about of " + no, x.about(no, 4), -1);
    Check.due("carried of " + no, x.carried(no, 0) + x.carried(0, no), -2);
    Check.due("loop of " + no, x.loop(0, 1, no), -1);
    Check.due("wear of " + no, x.wear(no, 0), Made.NO);
    Check.due("odds of " + no, x.odds(no, 0), Made.NO);
    Check.due("judge of " + no, x.judge(no, 0, 0), -1);
    // -1 has a meaning of its own here.
    Check.due("see of " + no, x.see(no, 0, true), no == -1 ? 0 : -1);
    Check.due("book of " + no, x.book(no, 0), no == -1 ? 0 : -1);
    if (no > 0 && no < 10) {
      Check.due("event of " + no, x.event(2, 10 * no) + x.event(2, no), -2);
    }
  }

  private static void numberOfTeams() {
    Check.due("n at first", Made.four().told(0), 4);
    for (int n = -3; n < 20; n++) {
      HomeRounds x = Made.four();
      boolean is = n == 4 || n == 6;
      Check.due("teams(" + n + ")", x.teams(n), is ? 4 : -2);
      Check.due("n behind it", x.told(0), is ? n : 4);
    }
  }

  private static void grounds() {
    Check.due("at first", Look.grounds(Made.six()), "0 0 / 0 0 / 0 0 / 0 0 / 0 0 / 0 0");
    Check.due("at first", Look.grounds(Made.four()), "0 0 / 0 0 / 0 0 / 0 0");
    HomeRounds x = Made.four();
    Check.due("0, 99", x.ground(0, 0, 99), 0);
    Check.due("99, 0", x.ground(1, 99, 0), 0);
    Check.due("99, 99", x.ground(2, 99, 99), 0);
    Check.due("x 100", x.ground(3, 100, 0), -2);
    Check.due("y 100", x.ground(3, 0, 100), -2);
    Check.due("x -1", x.ground(3, -1, 0), -2);
    Check.due("y -1", x.ground(3, 0, -1), -2);
    Check.due("all of them", Look.grounds(x), "0 99 / 99 0 / 99 99 / 0 0");
  }

  private static void rounds() {
    for (int n : Made.BOTH) {
      int last = n - 2;
      for (int no : new int[] {-1, n - 1, Made.MIN, Made.MAX}) {
        noRound(Made.of(n), no);
      }
      HomeRounds x = Made.of(n);
      Check.due("swap", x.swap(last, last), n - 2);
      Check.due("turn", x.turn(last, 0), n - 1);
      Check.due("bar", x.bar(0, last), 1);
      Check.due("game", x.game(last, 0, 0), n - 1);
      Check.due("of", x.of(n - 1, last, 0), last);
      Check.due("loop", x.loop(0, last, 0) + x.loop(last, 0, 0), 2 * n);
      Check.due("wear", x.wear(0, last), 0);
      Check.due("would", x.would(last, 0) != Made.NO);
      Check.due("event 0", x.event(0, 10 * last + last), 1);
      Check.due("event 1", x.event(1, 10 * last), 2);
    }
  }

  private static void noRound(HomeRounds x, int no) {
    Check.due("swap of " + no, x.swap(no, 0) + x.swap(0, no), -2);
    Check.due("turn of " + no, x.turn(no, 0), -1);
    Check.due("bar of " + no, x.bar(0, no), -1);
    Check.due("game of " + no, x.game(no, 0, 0), -1);
    Check.due("of of " + no, x.of(0, no, 0), -1);
    Check.due("loop of " + no, x.loop(no, 0, 0) + x.loop(0, no, 0), -2);
    Check.due("wear of " + no, x.wear(0, no), Made.NO);
    Check.due("would of " + no, x.would(no, 0), Made.NO);
    if (no > 0 && no < 10) {
      Check.due("event 0 of " + no, x.event(0, 10 * no) + x.event(0, no), -2);
      Check.due("event 1 of " + no, x.event(1, 10 * no), -1);
    }
  }

  private static void games() {
    for (int n : Made.BOTH) {
      HomeRounds x = Made.of(n);
      int last = n / 2 - 1;
      Check.due("game", x.game(0, last, 0) >= 0 && x.game(0, last, 1) >= 0);
      Check.due("turn", x.turn(0, last), x.game(0, last, 0));
      Check.due("would", x.would(0, last) != Made.NO);
      Check.due("event", x.event(1, last), 1);
      for (int no : new int[] {-1, n / 2, Made.MIN, Made.MAX}) {
        Check.due("game " + no, x.game(0, no, 0) + x.game(0, no, 1), -2);
        Check.due("turn of " + no, x.turn(0, no), -1);
        Check.due("would of " + no, x.would(0, no), Made.NO);
      }
      Check.due("event of " + n / 2, x.event(1, n / 2), -1);
      eachMeetsEachOnce(x, n);
    }
  }

  private static void eachMeetsEachOnce(HomeRounds x, int n) {
    boolean[] met = new boolean[n * n];
    for (int r = 0; r < n - 1; r++) {
      int inRound = 0;
      for (int k = 0; k < n / 2; k++) {
        int home = x.game(r, k, 0);
        int away = x.game(r, k, 1);
        inRound |= 1 << home | 1 << away;
        Check.due("new to each other", !met[home * n + away] && !met[away * n + home]);
        met[home * n + away] = true;
      }
      Check.due("all TEAMS are in ROUND " + r, inRound, (1 << n) - 1);
    }
  }

  private static void circle() {
    Doc.says("At first, and as soon as n is told anew, they are by THE CIRCLE:", () -> {
      Check.due("at first", Look.rounds(Made.four()), Made.CIRCLE_4);
      for (int n : Made.BOTH) {
        for (int next : Made.BOTH) {
          HomeRounds x = Made.full(n);
          x.teams(next);
          Check.due("anew", Look.rounds(x), next == 4 ? Made.CIRCLE_4 : Made.CIRCLE_6);
        }
        HomeRounds y = Made.full(n);
        y.read();
        Made.read(y, "teams " + n);
        Check.due("anew in THE TEXT", Look.rounds(y), n == 4 ? Made.CIRCLE_4 : Made.CIRCLE_6);
      }
    });
    Doc.says("in ROUND r GAME 0 is r and n - 1, r HOME, if r is even, else AWAY;", () -> {
      for (int n : Made.BOTH) {
        HomeRounds x = Made.of(n);
        for (int r = 0; r < n - 1; r++) {
          Check.due("HOME in " + r, x.game(r, 0, 0), r % 2 == 0 ? r : n - 1);
          Check.due("AWAY in " + r, x.game(r, 0, 1), r % 2 == 0 ? n - 1 : r);
        }
      }
    });
    Doc.says("GAME i (from 1 on) is a = (r + i) modulo (n - 1) and b = (r - i) modulo (n - 1) "
        + "(0 or more), a HOME, if i is odd, else b.", () -> {
      for (int n : Made.BOTH) {
        HomeRounds x = Made.of(n);
        for (int r = 0; r < n - 1; r++) {
          for (int i = 1; i < n / 2; i++) {
            int a = Math.floorMod(r + i, n - 1);
            int b = Math.floorMod(r - i, n - 1);
            Check.due("HOME in " + r + ", " + i, x.game(r, i, 0), i % 2 == 1 ? a : b);
            Check.due("AWAY in " + r + ", " + i, x.game(r, i, 1), i % 2 == 1 ? b : a);
          }
        }
      }
      Check.due("r - i below 0", Made.six().game(0, 2, 0), 3);
      Check.due("r + i beyond n - 2", Made.six().game(4, 1, 0), 0);
      Check.due("r + i is n - 1", Made.four().game(2, 1, 0), 0);
    });
  }

  private static void changes() {
    Doc.says("SWAPPED: two ROUNDS (or one twice) are exchanged, with all GAMES.", () -> {
      HomeRounds x = Made.six();
      x.turn(0, 2);
      x.swap(0, 4);
      Check.due("0 and 4", Look.rounds(x), "4-5 0-3 2-1 / 5-1 2-0 4-3 / 2-5 3-1 0-4 / "
          + "5-3 4-2 1-0 / 0-5 1-4 2-3");
      String was = Look.rounds(x);
      x.swap(3, 3);
      Check.due("one twice", Look.rounds(x), was);
      x.swap(4, 0);
      x.turn(0, 2);
      Check.due("back", Look.rounds(x), Made.CIRCLE_6);
    });
    Doc.says("TURNED: HOME and AWAY of a GAME are exchanged.", () -> {
      HomeRounds x = Made.four();
      x.turn(2, 1);
      Check.due("once", Look.rounds(x), "0-3 1-2 / 3-1 2-0 / 2-3 1-0");
      x.turn(2, 1);
      Check.due("twice", Look.rounds(x), Made.CIRCLE_4);
    });
    Doc.says("EXCHANGED: two TEAMS (or one twice) stand for each other in all GAMES (GROUNDS, "
        + "BARS stay with numbers).", () -> {
      HomeRounds x = Made.apart(6);
      x.bar(0, 3);
      x.bar(5, 1);
      String grounds = Look.grounds(x);
      x.exchange(0, 5);
      Check.due("0 and 5", Look.rounds(x), "5-0 1-4 3-2 / 0-1 2-5 4-3 / 2-0 3-1 5-4 / "
          + "0-3 4-2 1-5 / 4-0 5-3 2-1");
      String was = Look.rounds(x);
      x.exchange(3, 3);
      Check.due("one twice", Look.rounds(x), was);
      Check.due("GROUNDS", Look.grounds(x), grounds);
      Check.due("BARS", Look.bars(x), "0@3 5@1");
      x.exchange(5, 0);
      Check.due("back", Look.rounds(x), Made.CIRCLE_6);
    });
  }

  /** TEAM 0 is HOME always, TEAM 1 never. */
  private static HomeRounds allAndNone(int n) {
    HomeRounds x = Made.of(n);
    for (int r = 0; r < n - 1; r++) {
      for (int k = 0; k < n / 2; k++) {
        if (x.game(r, k, 1) == 0 || x.game(r, k, 0) == 1 && x.game(r, k, 1) != 0) {
          x.turn(r, k);
        }
      }
    }
    return x;
  }

  private static void patterns() {
    Doc.says("PATTERN of a TEAM: BITS, of each ROUND r in which it is HOME 2 to the r, together.",
        () -> {
      for (int n : Made.BOTH) {
        HomeRounds x = allAndNone(n);
        Check.due("always HOME", x.about(0, 0), (1 << (n - 1)) - 1);
        Check.due("never HOME", x.about(1, 0), 0);
      }
      HomeRounds y = Made.six();
      // By THE CIRCLE: 0 is HOME in 0, 2, 4; 1 in 0, 3; 2 in 1, 2, 4; 3 in 0, 2; 4 in 1, 3, 4;
      // 5 in 1, 3.
      int[] patterns = {1 + 4 + 16, 1 + 8, 2 + 4 + 16, 1 + 4, 2 + 8 + 16, 2 + 8};
      for (int i = 0; i < 6; i++) {
        Check.due("PATTERN of " + i, y.about(i, 0), patterns[i]);
      }
    });
    Doc.says("A BREAK: two ROUNDS, one behind the other, in which one is HOME both times, or AWAY "
        + "both.", () -> {
      for (int n : Made.BOTH) {
        HomeRounds x = allAndNone(n);
        Check.due("always HOME", x.about(0, 1), n - 2);
        Check.due("always AWAY", x.about(1, 1), n - 2);
      }
      Check.due("first and last alike are none", Made.four().about(0, 1), 0);
      Check.due("HOME, AWAY, AWAY", Made.four().about(1, 1), 1);
      Check.due("AWAY, HOME, HOME", Made.four().about(2, 1), 1);
    });
  }

  private static void bars() {
    Doc.says("BARS: TEAMS and ROUNDS in which they mustn't be HOME (none at first, and as soon as "
        + "n is told anew);", () -> {
      for (int n : Made.BOTH) {
        Check.due("at first", Made.four().told(6), 0);
        Check.due("at first", Look.bars(Made.four()), "");
        HomeRounds x = Made.of(n);
        for (int i = 0; i < n; i++) {
          for (int r = 0; r < n - 1; r++) {
            Check.due("told", x.bar(i, r), 1);
          }
        }
        Check.due("all there can be", x.told(6), n * (n - 1));
        x.teams(n);
        Check.due("anew, the same n", x.told(6), 0);
        Check.due("anew, the same n", Look.bars(x), "");
        x.bar(3, 2);
        x.teams(10 - n);
        Check.due("anew, another n", x.told(6), 0);
        x.teams(n);
        Check.due("and back", x.told(6), 0);
      }
    });
    Doc.says("VIOLATED: in how many ROUNDS a TEAM is HOME though it mustn't, of all TEAMS "
        + "together.", () -> {
      for (int n : Made.BOTH) {
        HomeRounds x = Made.of(n);
        Check.due("no BARS", x.told(2), 0);
        int due = 0;
        for (int i = 0; i < n; i++) {
          for (int r = 0; r < n - 1; r++) {
            x.bar(i, r);
            due += x.of(i, r, 1);
            Check.due("behind the BAR " + i + ", " + r, x.told(2), due);
          }
        }
        Check.due("all that are HOME", due, n / 2 * (n - 1));
      }
    });
  }

  private static void carried() {
    Doc.says("CARRIED from i to j: in how many ROUNDS r (but the last) i meets someone who meets j "
        + "in ROUND r + 1 (i, j unlike).", () -> {
      for (int n : Made.BOTH) {
        HomeRounds x = Made.of(n);
        x.swap(0, n - 2);
        x.exchange(1, n - 1);
        for (int i = 0; i < n; i++) {
          int all = 0;
          for (int j = 0; j < n; j++) {
            int due = 0;
            for (int r = 0; r + 1 <= n - 2; r++) {
              due += x.of(x.of(i, r, 0), r + 1, 0) == j ? 1 : 0;
            }
            Check.due("from " + i + " to " + j, x.carried(i, j), i == j ? -1 : due);
            all += i == j ? 0 : due;
          }
          Check.due("once in each ROUND but the last", all, n - 2);
        }
      }
      // Six by THE CIRCLE: 0 meets 5, 2, 4, 1, 3; these meet 1, 5, 2, 2 a ROUND later.
      Check.due("none", Made.six().carried(0, 3), 0);
      Check.due("twice", Made.six().carried(0, 2), 2);
    });
    Doc.says("CARRY: of all i, j the squares of these, together.", () -> {
      for (int n : Made.BOTH) {
        HomeRounds x = Made.of(n);
        for (int time = 0; time < 3; time++) {
          int due = 0;
          for (int i = 0; i < n; i++) {
            for (int j = 0; j < n; j++) {
              due += i == j ? 0 : x.carried(i, j) * x.carried(i, j);
            }
          }
          Check.due("CARRY", x.told(3), due);
          x.swap(time, n - 2);
        }
      }
      Check.due("of four", Made.four().told(3), 8);
      Check.due("of six", Made.six().told(3), 42);
    });
  }

  /** FAR of TEAM 1's GROUND at x1, y1 and TEAM 2's, all others being on 1's: 2's WAY in ROUND 0. */
  private static int far(int x1, int y1, int x2, int y2) {
    HomeRounds x = Made.four();
    x.ground(0, x1, y1);
    x.ground(1, x1, y1);
    x.ground(3, x1, y1);
    x.ground(2, x2, y2);
    // 2 is AWAY in ROUND 0 alone: there, and back.
    Check.due("even", x.about(2, 3) % 2, 0);
    return x.about(2, 3) / 2;
  }

  private static void ways() {
    Doc.says("FAR of two GROUNDS: how far x are, and how far y are, without signs, together.",
        () -> {
      Check.due("the same", far(7, 8, 7, 8), 0);
      Check.due("up", far(1, 2, 30, 50), 29 + 48);
      Check.due("down", far(30, 50, 1, 2), 29 + 48);
      Check.due("x up, y down", far(1, 50, 30, 2), 29 + 48);
      Check.due("x down, y up", far(30, 2, 1, 50), 29 + 48);
      Check.due("the farthest", far(0, 0, 99, 99), 198);
      Check.due("the farthest", far(99, 0, 0, 99), 198);
      Check.due("x alone", far(5, 0, 6, 0), 1);
      Check.due("y alone", far(0, 5, 0, 4), 1);
    });
    Doc.says("WAY of a TEAM in a ROUND: FAR from where it was last (its own GROUND at first) to "
        + "where it plays (its own GROUND, if HOME, else the other one's).", () -> {
      HomeRounds x = Made.four();
      x.ground(0, 10, 0);
      x.ground(1, 0, 20);
      x.ground(2, 40, 0);
      x.ground(3, 0, 80);
      // 1 is at home, then at 3, then at 0; 3 is at 0, then at home, then at 2.
      dueWays(x, 1, 0, 60, 90);
      dueWays(x, 3, 90, 90, 120);
      dueWays(x, 0, 0, 50 - 20, 30);
      x.turn(0, 1);
      dueWays(x, 1, 60, 40 + 80, 90);
    });
    Doc.says("MILES of a TEAM: all its WAYS, and FAR from where it is last to its own GROUND, "
        + "together.", () -> {
      HomeRounds x = Made.four();
      Check.due("all at one place", x.told(4), 0);
      x.ground(0, 10, 0);
      x.ground(1, 0, 20);
      x.ground(2, 40, 0);
      x.ground(3, 0, 80);
      Check.due("last away", x.about(1, 3), 60 + 90 + 30);
      Check.due("last away", x.about(3, 3), 90 + 90 + 120 + 120);
      Check.due("last at home", x.about(0, 3), 30 + 30);
      Check.due("last at home", x.about(2, 3), 60 + 60);
      Check.due("all", x.told(4), 180 + 420 + 60 + 120);
    });
  }

  /** WEAR behind each ROUND shows the WAYS; these are small, so each can be told from the next. */
  private static void dueWays(HomeRounds x, int team, int... ways) {
    float wear = 0.0f;
    for (int r = 0; r < ways.length; r++) {
      wear = wear * 0.75f + (float) ways[r] / 3.0f;
      Check.due("WEAR of " + team + " behind " + r, x.wear(team, r), Float.floatToIntBits(wear));
    }
  }

  private static void wearAndCost() {
    Doc.says("WEAR behind a ROUND, a float: 0.0f ahead of ROUND 0; then, ROUND by ROUND, the last "
        + "one times 0.75f, and the WAY as a float by 3.0f.", () -> {
      HomeRounds x = Made.four();
      dueWays(x, 0, 0, 0, 0);
      x.ground(3, 43, 0);
      x.ground(1, 43, 8);
      // In doubles, or by a third instead of by 3, the last bit would be another.
      dueWays(x, 1, 0, 8, 43);
      float due = 8.0f / 3.0f * 0.75f + 43.0f / 3.0f;
      Check.due("floats all the way", due != (float) (8.0 / 3.0 * 0.75 + 43.0 / 3.0)
          && due != 8.0f * (1.0f / 3.0f) * 0.75f + 43.0f * (1.0f / 3.0f)
          && due != Math.fma(8.0f / 3.0f, 0.75f, 43.0f / 3.0f));
      HomeRounds y = Made.six();
      y.ground(0, 99, 99);
      // 5 is at 0, at home, at 2, at home, at 4.
      dueWays(y, 5, 198, 198, 0, 0, 0);
    });
    Doc.says("RATES 0 .. 3 (0 .. 99 each; 10, 50, 1, 0 at first).", () -> {
      HomeRounds x = Made.four();
      Check.due("at first", Look.rates(x), "10 50 1 0");
      Check.due("no RATE -1", x.rate(-1, 0) + x.rateOf(-1) + x.event(3, -10), -3);
      Check.due("no RATE 4", x.rate(4, 0) + x.rateOf(4) + x.event(3, 40), -3);
      for (int k = 0; k < 4; k++) {
        Check.due("-1", x.rate(k, -1), -2);
        Check.due("100", x.rate(k, 100), -2);
        Check.due("99", x.rate(k, 99) >= 0);
        Check.due("0", x.rate(k, 0), 99);
      }
      Check.due("then", Look.rates(x), "0 0 0 0");
    });
    Doc.says("COST, a float: RATE 0 times all BREAKS, and RATE 1 times VIOLATED, and RATE 2 times "
        + "CARRY, and RATE 3 times all MILES, added from the left; each RATE as a float by 10.0f, "
        + "times the number as a float.", TermsEdges::cost);
  }

  private static void cost() {
    HomeRounds x = Made.four();
    x.ground(3, 31, 25);
    x.bar(0, 0);
    x.bar(1, 0);
    x.bar(2, 1);
    for (int k = 0; k < 4; k++) {
      for (int other = 0; other < 4; other++) {
        x.rate(other, 0);
      }
      Check.due("all RATES 0", x.cost(), 0);
      x.rate(k, 99);
      float due = 99 / 10.0f * (float) x.told(k + 1);
      Check.due("RATE " + k + " alone", x.cost(), Float.floatToIntBits(due));
    }
    x.rate(0, 23);
    x.rate(1, 57);
    x.rate(2, 35);
    x.rate(3, 9);
    float a = 23 / 10.0f * 2.0f;
    float b = 57 / 10.0f * 3.0f;
    float c = 35 / 10.0f * 8.0f;
    float d = 9 / 10.0f * 336.0f;
    float due = ((a + b) + c) + d;
    Check.due("of all", x.cost(), Float.floatToIntBits(due));
    // So that no other way to reckon it would do.
    Check.due("not from the right", due != a + (b + (c + d)) && due != ((d + c) + b) + a);
    Check.due("not in doubles", due != (float) ((double) a + b + c + d)
        && due != (float) (4.6 + 17.1 + 28.0 + 302.4));
    Check.due("not divided last", due != 46 / 10.0f + 171 / 10.0f + 280 / 10.0f + 3024 / 10.0f);
  }
}
