/** The Terms of the document, section 1: STEPS and THE SEASON. */
final class StepEdges {
  private static final int TURN = 0, SWAP = 1, EXCHANGE = 2;

  private StepEdges() {}

  static void run() {
    Doc.terms();
    Doc.says("A STEP by a MANNER:", () -> {
      for (int manner = 0; manner < 3; manner++) {
        Check.due("MANNER " + manner, Made.four().step(manner, 1), 0);
      }
      Check.due("MANNER -1", Made.four().step(-1, 1), -2);
      Check.due("MANNER 3", Made.four().step(3, 1), -2);
    });
    Doc.says("of what it may do the first by which COST is least is done", () -> {
      leastOfTurns();
      leastOfSwaps();
      leastOfExchanges();
    });
    Doc.says("if that is less than COST (as floats):", () -> {
      notLess();
      lessAsFloats();
    });
    Doc.says("0 one GAME is TURNED (ROUND by ROUND, GAME by GAME);", StepEdges::orderOfTurns);
    Doc.says("1 two ROUNDS are SWAPPED (the first, then the second, which is more);",
        StepEdges::orderOfSwaps);
    Doc.says("2 two TEAMS are EXCHANGED (likewise).", StepEdges::orderOfExchanges);
    season();
  }

  /** That one STEP does just this. */
  private static void dueStep(HomeRounds x, HomeRounds same, int manner, int a, int b) {
    if (manner == TURN) {
      same.turn(a, b);
    } else if (manner == SWAP) {
      same.swap(a, b);
    } else {
      same.exchange(a, b);
    }
    Check.due("a STEP", x.step(manner, 1), 1);
    Check.due("ROUNDS behind it", Look.rounds(x), Look.rounds(same));
  }

  /** The same BARS, and nothing else that costs. */
  private static void dueStepOfBars(int n, int manner, int a, int b, int... bars) {
    HomeRounds x = Made.barsCost(n);
    HomeRounds same = Made.barsCost(n);
    for (int i = 0; i < bars.length; i += 2) {
      x.bar(bars[i], bars[i + 1]);
      same.bar(bars[i], bars[i + 1]);
    }
    dueStep(x, same, manner, a, b);
  }

  private static HomeRounds twoBars() {
    HomeRounds x = Made.four();
    x.bar(0, 0);
    x.bar(2, 2);
    return x;
  }

  private static void leastOfTurns() {
    HomeRounds x = twoBars();
    long now = x.cost();
    // GAME 0 of ROUND 0 makes two BREAKS more, GAME 0 of ROUND 2 none.
    Check.due("the first is less, too", x.would(0, 0) < now && x.would(2, 0) < x.would(0, 0));
    dueStep(x, twoBars(), TURN, 2, 0);
  }

  private static void leastOfSwaps() {
    // 0 with 1 would mend one, 0 with 2 mends both.
    dueStepOfBars(4, SWAP, 0, 2, 2, 2, 1, 0);
    dueStepOfBars(6, SWAP, 0, 4, 1, 0, 2, 4);
  }

  private static void leastOfExchanges() {
    // 0 with 2 would mend one, 0 with 3 mends both.
    dueStepOfBars(4, EXCHANGE, 0, 3, 3, 1, 0, 0);
    dueStepOfBars(6, EXCHANGE, 3, 4, 4, 3, 4, 4);
  }

  private static void notLess() {
    for (int n : Made.BOTH) {
      for (int manner = 0; manner < 3; manner++) {
        HomeRounds x = Made.of(n);
        for (int k = 0; k < 4; k++) {
          x.rate(k, 0);
        }
        x.bar(0, 0);
        Check.due("COST is 0, whatever is done", x.step(manner, 50), 0);
        Check.due("ROUNDS", Look.rounds(x), n == 4 ? Made.CIRCLE_4 : Made.CIRCLE_6);
      }
    }
    HomeRounds y = Made.four();
    // Every GAME with one at home who mustn't, and one who mustn't either.
    for (int i = 0; i < 4; i++) {
      y.bar(i, 0);
    }
    y.rate(0, 0);
    Check.due("alike is not less", y.step(TURN, 50), 0);
    Check.due("alike is not less", y.step(EXCHANGE, 50), 0);
    Check.due("ROUNDS", Look.rounds(y), Made.CIRCLE_4);
  }

  private static HomeRounds costing(int rate0, int rate1, int rate3) {
    HomeRounds x = Made.four();
    x.rate(0, rate0);
    x.rate(1, rate1);
    x.rate(2, 0);
    x.rate(3, rate3);
    x.ground(3, 4, 0);
    return x;
  }

  private static HomeRounds alikeButForFloats() {
    HomeRounds x = costing(4, 2, 1);
    x.turn(1, 0);
    x.bar(0, 0);
    return x;
  }

  private static HomeRounds twoAlikeButForFloats() {
    HomeRounds x = costing(7, 2, 1);
    x.turn(0, 1);
    x.bar(1, 1);
    return x;
  }

  /** By tenths they would be alike; as floats the last bit makes one less. */
  private static void lessAsFloats() {
    HomeRounds x = alikeButForFloats();
    Check.due("tenths", 4 * x.told(1) + 2 * x.told(2) + x.told(4), 26);
    Check.due("floats", x.would(2, 0) < x.cost());
    dueStep(x, alikeButForFloats(), TURN, 2, 0);
    Check.due("tenths then", 4 * x.told(1) + 2 * x.told(2) + x.told(4), 26);
    HomeRounds y = twoAlikeButForFloats();
    Check.due("the later one is less", y.would(1, 0) < y.would(0, 1));
    dueStep(y, twoAlikeButForFloats(), TURN, 1, 0);
  }

  private static void orderOfTurns() {
    dueStepOfBars(4, TURN, 0, 0, 0, 0, 1, 0);
    dueStepOfBars(4, TURN, 0, 1, 1, 0, 3, 1);
    dueStepOfBars(4, TURN, 1, 0, 3, 1, 2, 2);
    dueStepOfBars(6, TURN, 0, 2, 3, 0, 5, 1);
    dueStepOfBars(6, TURN, 4, 1, 0, 4, 2, 4);
    // The only one that helps is the last.
    dueStepOfBars(4, TURN, 2, 1, 0, 2);
    dueStepOfBars(6, TURN, 4, 2, 2, 4);
  }

  private static void orderOfSwaps() {
    dueStepOfBars(4, SWAP, 0, 1, 1, 0);
    dueStepOfBars(4, SWAP, 0, 1, 3, 1);
    // 0 with 4, 1 with 2, 2 with 3, 2 with 4 mend one each.
    dueStepOfBars(6, SWAP, 0, 4, 4, 4, 0, 2);
    // 0 is HOME in 0 and 2: only the last two ROUNDS help.
    dueStepOfBars(4, SWAP, 1, 2, 0, 2);
  }

  private static void orderOfExchanges() {
    // 0 with 3, 1 with 2, 1 with 3, 2 with 3 mend one each.
    dueStepOfBars(4, EXCHANGE, 0, 3, 2, 2, 3, 1);
    dueStepOfBars(6, EXCHANGE, 0, 5, 2, 2, 5, 1);
    // 0, 1, 2 mustn't be HOME in ROUND 2, 2 and 0 are: only 3 for 0, or for 2, helps.
    dueStepOfBars(4, EXCHANGE, 0, 3, 0, 2, 1, 2, 2, 2);
    // 3 is as 0 then: only the last two help.
    dueStepOfBars(4, EXCHANGE, 2, 3, 2, 2, 0, 2, 1, 2, 0, 1);
  }

  private static void dueSeason(HomeRounds x, int team, String rivals, String sides) {
    StringBuilder met = new StringBuilder();
    StringBuilder home = new StringBuilder();
    for (int r = 0; r < 2 * (x.told(0) - 1); r++) {
      met.append(x.season(team, r, 0));
      home.append(x.season(team, r, 1));
    }
    Check.due("whom " + team + " meets by KIND " + x.told(7), met.toString(), rivals);
    Check.due("where by KIND " + x.told(7), home.toString(), sides);
  }

  private static void season() {
    Doc.says("THE SEASON, by a KIND (0 at first), has 2 times (n - 1) ROUNDS:", () -> {
      Check.due("KIND at first", Made.four().told(7), 0);
      for (int n : Made.BOTH) {
        for (int kind = 0; kind < 3; kind++) {
          HomeRounds x = Made.of(n);
          x.kind(kind);
          int last = 2 * (n - 1) - 1;
          Check.due("the last", x.season(0, last, 0) >= 0 && x.season(0, last, 1) >= 0);
          Check.due("beyond", x.season(0, last + 1, 0) + x.season(0, last + 1, 1), -2);
          Check.due("below 0", x.season(0, -1, 0) + x.season(0, -1, 1), -2);
          Check.due("MIN", x.season(0, Made.MIN, 0), -1);
          Check.due("MAX", x.season(0, Made.MAX, 0), -1);
        }
      }
    });
    Doc.says("the first half as it is;", () -> {
      for (int kind = 0; kind < 3; kind++) {
        HomeRounds x = Made.six();
        x.turn(0, 1);
        x.kind(kind);
        for (int r = 0; r < 5; r++) {
          Check.due("whom", x.season(1, r, 0), x.of(1, r, 0));
          Check.due("where", x.season(1, r, 1), x.of(1, r, 1));
        }
      }
    });
    // 1 of four meets 2, 3, 0: HOME, AWAY, AWAY. 1 of six 4, 5, 3, 0, 2: HOME in 0 and 3.
    Doc.says("in the second one HOME and AWAY are exchanged, ROUNDS being 0 AGAIN: as they are;",
        () -> {
      dueSeason(Made.four(), 1, "230230", "100011");
      dueSeason(Made.six(), 1, "4530245302", "1001001101");
    });
    Doc.says("1 BACK: the last one first, and so on back;", () -> {
      HomeRounds x = Made.four();
      x.kind(1);
      dueSeason(x, 1, "230032", "100110");
      x.teams(6);
      dueSeason(x, 1, "4530220354", "1001010110");
    });
    Doc.says("2 LAST: the last one, then all others from 0 on.", () -> {
      HomeRounds x = Made.four();
      x.kind(2);
      dueSeason(x, 1, "230023", "100101");
      x.teams(6);
      dueSeason(x, 1, "4530224530", "1001010110");
    });
  }
}
