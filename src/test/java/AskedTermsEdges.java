/** The Terms of the document, sections 2 and 3: what is asked, rows told by hand, TAPES. */
final class AskedTermsEdges {
  private AskedTermsEdges() {}

  static void run() {
    Doc.terms();
    Doc.says("All that follows is asked, and changes nothing.", NothingEdges::asked);
    Doc.says("OTHER of a TEAM: the least whose PATTERN has HOME just where its own has AWAY "
        + "(-5: none).", AskedTermsEdges::other);
    Doc.says("LEAST BREAKS there can be: n - 2.", AskedTermsEdges::leastBreaks);
    Doc.says("LOOP of two ROUNDS (unlike) and a TEAM: to how many TEAMS, it too, one comes from it "
        + "by GAMES of both.", AskedTermsEdges::loop);
    Doc.says("MOST WORN: the TEAM with the greatest WEAR behind the last ROUND, of several the "
        + "least.", AskedTermsEdges::mostWorn);
    Doc.says("SPREAD, as a double: of all TEAMS, by numbers, the square of WEAR behind the last "
        + "ROUND less the MEAN WEAR (both as doubles), added from 0.0 on, by n; MEAN WEAR: all of "
        + "these WEARS as doubles, added from 0.0 on, by n.", AskedTermsEdges::spread);
    seen();
    chances();
    events();
    book();
    image();
    tapes();
    refusals();
  }

  private static void other() {
    HomeRounds x = Made.four();
    int[] others = {3, 2, 1, 0};
    for (int i = 0; i < 4; i++) {
      Check.due("OTHER of " + i, x.about(i, 2), others[i]);
    }
    // Patterns are 5, 1, 6, 2; then 7, 1, 4, 2: none is 0, 6, 3, 5.
    x.turn(1, 1);
    for (int i = 0; i < 4; i++) {
      Check.due("none", x.about(i, 2), -5);
    }
    allOthers();
    HomeRounds y = Made.six();
    int[] sixOthers = {5, 2, 1, 4, 3, 0};
    int[] patterns = {21, 9, 22, 5, 26, 10};
    for (int i = 0; i < 6; i++) {
      Check.due("OTHER of " + i + " of six", y.about(i, 2), sixOthers[i]);
      Check.due("PATTERN of " + i, y.about(i, 0), patterns[i]);
    }
  }

  /** Two TEAMS meet once, so never have the same PATTERN: where there is an OTHER, it's the one. */
  private static void allOthers() {
    for (int turns = 0; turns < 64; turns++) {
      HomeRounds x = turned(turns);
      for (int i = 0; i < 4; i++) {
        int due = -5;
        for (int j = 3; j >= 0; j--) {
          due = x.about(i, 0) + x.about(j, 0) == 7 ? j : due;
          Check.due("PATTERNS are unlike", i == j || x.about(i, 0) != x.about(j, 0));
        }
        Check.due("OTHER of " + i, x.about(i, 2), due);
      }
    }
  }

  /** Four TEAMS, of the six GAMES those TURNED that BITS tell. */
  private static HomeRounds turned(int bits) {
    HomeRounds x = Made.four();
    for (int game = 0; game < 6; game++) {
      if ((bits >> game & 1) == 1) {
        x.turn(game / 2, game % 2);
      }
    }
    return x;
  }

  private static void leastBreaks() {
    for (int n : Made.BOTH) {
      HomeRounds x = Made.of(n);
      Check.due("BREAKS by THE CIRCLE", x.told(1), n - 2);
      Check.due("none above the least", x.told(9), 0);
      x.turn(0, 0);
      Check.due("above the least", x.told(9), x.told(1) - (n - 2));
      Check.due("there are some", x.told(9), 2);
    }
    for (int turns = 0; turns < 64; turns++) {
      HomeRounds x = turned(turns);
      Check.due("never below the least", x.told(9) >= 0);
      Check.due("above it", x.told(9), x.told(1) - 2);
    }
  }

  private static void loop() {
    for (int n : Made.BOTH) {
      HomeRounds x = Made.of(n);
      x.swap(0, 2);
      x.exchange(1, n - 1);
      for (int r = 0; r < n - 1; r++) {
        for (int s = 0; s < n - 1; s++) {
          for (int team = 0; team < n; team++) {
            int come = 1 << team;
            for (int time = 0; time < n; time++) {
              for (int i = 0; i < n; i++) {
                come |= (come >> i & 1) == 1 ? 1 << x.of(i, r, 0) | 1 << x.of(i, s, 0) : 0;
              }
            }
            String call = "LOOP of " + r + ", " + s + ", " + team;
            Check.due(call, x.loop(r, s, team), r == s ? -1 : Integer.bitCount(come));
          }
        }
      }
    }
  }

  private static void mostWorn() {
    Check.due("all alike, 0.0f", Made.four().told(5), 0);
    Check.due("all alike, 0.0f", Made.six().told(5), 0);
    HomeRounds x = Made.four();
    x.ground(0, 0, 2);
    x.ground(1, 0, 1);
    x.ground(2, 1, 0);
    x.ground(3, 2, 0);
    Check.due("1 and 3 are alike", x.wear(1, 2), x.wear(3, 2));
    Check.due("more than 0", x.wear(1, 2) > x.wear(0, 2));
    Check.due("the least of several", x.told(5), 1);
    for (int n : Made.BOTH) {
      boolean[] was = new boolean[n];
      for (int i = 0; i < n; i++) {
        for (int turn = 0; turn < n; turn++) {
          HomeRounds y = Made.of(n);
          y.ground(i, 90, 9);
          y.turn(n - 2, turn % (n / 2));
          y.exchange(turn, i);
          dueMostWorn(y, n);
          was[y.told(5)] = true;
        }
      }
      for (int i = 0; i < n; i++) {
        Check.due("MOST WORN was " + i + " of " + n, was[i]);
      }
    }
  }

  private static void dueMostWorn(HomeRounds x, int n) {
    int due = 0;
    for (int i = 1; i < n; i++) {
      due = Made.floatOf(x.wear(i, n - 2)) > Made.floatOf(x.wear(due, n - 2)) ? i : due;
    }
    Check.due("MOST WORN", x.told(5), due);
  }

  private static void spread() {
    Check.due("none is worn", Made.spreadOf(Made.four()) == 0.0);
    HomeRounds x = Made.four();
    x.ground(0, 3, 21);
    x.ground(1, 12, 7);
    x.ground(2, 5, 14);
    x.ground(3, 24, 4);
    double[] wears = new double[4];
    double sum = 0.0;
    float floatSum = 0.0f;
    double squares = 0.0;
    for (int i = 0; i < 4; i++) {
      wears[i] = Made.floatOf(x.wear(i, 2));
      sum = sum + wears[i];
      floatSum = floatSum + (float) wears[i];
      squares = squares + wears[i] * wears[i];
    }
    double mean = sum / 4;
    double due = 0.0;
    double back = 0.0;
    double byFloat = 0.0;
    for (int i = 0; i < 4; i++) {
      due = due + (wears[i] - mean) * (wears[i] - mean);
      back = back + (wears[3 - i] - mean) * (wears[3 - i] - mean);
      byFloat = byFloat + (wears[i] - floatSum / 4) * (wears[i] - floatSum / 4);
    }
    Check.due("SPREAD", x.spread(0) << 32 | x.spread(1), Double.doubleToLongBits(due / 4));
    Check.due("by numbers from 0 on", due != back);
    Check.due("in doubles", due != byFloat);
    Check.due("not of the squares", due / 4 != squares / 4 - mean * mean);
    Check.due("by n, 4", Made.spreadByWear(x) == due / 4);
    Check.due("by n, 6", Made.spreadOf(Made.apart(6)) == Made.spreadByWear(Made.apart(6)));
  }

  private static void seen() {
    Doc.says("SEEN told by hand: a TEAM, a ROUND of THE SEASON (0 .. 9), whether it is HOME (6 "
        + "rows at most; there may be no such ROUND: not so).", () -> {
      HomeRounds x = Made.four();
      Check.due("ROUND -1", x.see(0, -1, true), -2);
      Check.due("ROUND 10", x.see(0, 10, true), -2);
      Check.due("none came", x.fits() * 10 + x.count(0), 70);
      for (int r = 0; r < 10; r++) {
        for (int side = 0; side < 2; side++) {
          x.see(-1, 0, true);
          Check.due("ROUND " + r, x.see(0, r, side == 1), 1);
          // 0 of four is HOME, AWAY, HOME, then by KIND AHA, AHA, AAH.
          int[][] due = {{0, 7}, {7, 0}, {0, 7}, {7, 0}, {4, 3}, {3, 4}};
          Check.due("so by " + r + ", " + side, x.fits(), r < 6 ? due[r][side] : 0);
        }
      }
      x.see(-1, 0, true);
      for (int row = 1; row <= 6; row++) {
        Check.due("row " + row, x.see(0, 0, true), row);
      }
      Check.due("row 7", x.see(0, 0, false), -4);
      Check.due("it didn't come", x.fits(), 7);
    });
    Doc.says("FITS: BITS of KINDS by which all of SEEN is so.", () -> {
      HomeRounds x = Made.four();
      Check.due("nothing SEEN", x.fits(), 7);
      x.see(0, 4, true);
      Check.due("AGAIN and BACK", x.fits(), 3);
      x.see(1, 3, true);
      Check.due("BACK alone", x.fits(), 2);
      x.see(1, 5, true);
      Check.due("none", x.fits(), 0);
      x.see(-1, 0, true);
      x.see(1, 3, false);
      Check.due("AGAIN alone", x.fits(), 1);
      x.see(-1, 0, true);
      x.see(0, 4, false);
      Check.due("LAST alone", x.fits(), 4);
      x.see(0, 4, false);
      x.see(0, 4, false);
      x.see(0, 4, false);
      x.see(0, 4, false);
      x.see(0, 0, false);
      Check.due("the last row counts, too", x.fits(), 0);
    });
  }

  private static void chances() {
    Doc.says("ODDS of a TEAM: any ROUND of THE SEASON, each alike likely, but its first: how "
        + "likely there is a BREAK from the one ahead: a fraction in lowest terms.", () -> {
      Check.due("none: 0 by 1", Made.four().odds(0, 0) * 10 + Made.four().odds(0, 1), 1);
      Check.due("3 by 5", Made.four().odds(1, 0) * 10 + Made.four().odds(1, 1), 35);
      for (int n : Made.BOTH) {
        HomeRounds x = Made.of(n);
        for (int kind = 0; kind < 3; kind++) {
          x.kind(kind);
          for (int k = 0; k < n / 2; k++) {
            x.turn(kind, k);
            dueOdds(x, n);
          }
        }
      }
    });
    Doc.says("MEAN: all BREAKS (of the first half) by n: a fraction in lowest terms.", () -> {
      HomeRounds x = Made.four();
      Check.due("2 by 4", x.mean(0) * 10 + x.mean(1), 12);
      x.turn(0, 0);
      Check.due("4 by 4", x.mean(0) * 10 + x.mean(1), 11);
      x.turn(0, 1);
      Check.due("6 by 4", x.mean(0) * 10 + x.mean(1), 32);
      x.kind(2);
      Check.due("of the first half alone", x.mean(0) * 10 + x.mean(1), 32);
      Check.due("4 by 6", Made.six().mean(0) * 10 + Made.six().mean(1), 23);
      for (int n : Made.BOTH) {
        HomeRounds y = Made.of(n);
        for (int game = 0; game < (n - 1) * n / 2; game++) {
          y.turn(game / (n / 2), game % (n / 2));
          dueFraction("MEAN", y.mean(0), y.mean(1), y.told(1), n);
        }
      }
    });
  }

  private static void dueOdds(HomeRounds x, int n) {
    for (int i = 0; i < n; i++) {
      int breaks = 0;
      for (int r = 1; r < 2 * (n - 1); r++) {
        breaks += x.season(i, r, 1) == x.season(i, r - 1, 1) ? 1 : 0;
      }
      dueFraction("ODDS", x.odds(i, 0), x.odds(i, 1), breaks, 2 * (n - 1) - 1);
    }
  }

  private static void dueFraction(String what, long above, long below, int a, int b) {
    int d = b;
    while (a % d != 0 || b % d != 0) {
      d--;
    }
    Check.due(what + " above, " + a + " by " + b, above, a / d);
    Check.due(what + " below, " + a + " by " + b, below, b / d);
  }

  private static void events() {
    Doc.says("EVENTS told by hand, each with n = 10 a + b: 0 ROUNDS a, b are SWAPPED; 1 GAME b of "
        + "ROUND a is TURNED; 2 TEAMS a, b are EXCHANGED; 3 RATE a is b (8 rows at most):", () -> {
      HomeRounds x = Made.six();
      int[][] right = {{0, 0}, {0, 44}, {0, 40}, {0, 4}, {1, 0}, {1, 42}, {2, 0}, {2, 55}, {2, 50},
          {2, 5}, {3, 0}, {3, 9}, {3, 30}, {3, 39}};
      for (int[] row : right) {
        x.event(-1, 0);
        Check.due("event " + row[0] + ", " + row[1], x.event(row[0], row[1]), 1);
      }
      x.event(-1, 0);
      int[][] wrong = {{0, 5}, {0, 50}, {1, 3}, {1, 50}, {2, 6}, {2, 60}, {3, 40}, {0, 100},
          {1, 100}, {2, 100}, {3, 100}, {0, Made.MAX}, {3, Made.MAX}};
      for (int[] row : wrong) {
        Check.due("event " + row[0] + ", " + row[1], x.event(row[0], row[1]), -1);
        Check.due("below 0", x.event(row[0], -row[1]), -1);
      }
      for (int row = 1; row <= 8; row++) {
        Check.due("row " + row, x.event(1, 0), row);
      }
      Check.due("row 9", x.event(1, 0), -4);
      Check.due("it didn't come: all undone", x.after(2), x.cost());
    });
    Doc.says("AFTER, behind all of it: BREAKS; VIOLATED; COST.", () -> {
      for (int n : Made.BOTH) {
        HomeRounds x = Made.full(n);
        x.event(-1, 0);
        dueAfter(x, x);
        HomeRounds same = Made.full(n);
        int[][] rows = {{1, 11}, {0, 12}, {2, 13}, {3, 29}, {1, 0}, {2, 3}, {3, 10}, {0, 20}};
        for (int[] row : rows) {
          x.event(row[0], row[1]);
          int a = row[1] / 10;
          int b = row[1] % 10;
          Check.due("done by hand", (row[0] == 0 ? same.swap(a, b) : row[0] == 1 ? same.turn(a, b)
              : row[0] == 2 ? same.exchange(a, b) : same.rate(a, b)) >= 0);
          dueAfter(x, same);
        }
      }
    });
  }

  private static void dueAfter(HomeRounds x, HomeRounds done) {
    Check.due("BREAKS", x.after(0), done.told(1));
    Check.due("VIOLATED", x.after(1), done.told(2));
    Check.due("COST", x.after(2), done.cost());
  }

  private static void book() {
    Doc.says("A BOOK told by hand: TEAMS, BREAKS (0 .. 4; 8 rows at most):", () -> {
      HomeRounds x = Made.four();
      Check.due("BREAKS -1", x.book(0, -1), -2);
      Check.due("BREAKS 5", x.book(0, 5), -2);
      Check.due("BREAKS 0", x.book(0, 0), 1);
      Check.due("BREAKS 4", x.book(0, 4), 2);
      for (int row = 3; row <= 8; row++) {
        Check.due("row " + row, x.book(3, 3), row);
      }
      Check.due("row 9", x.book(0, 0), -4);
    });
    Doc.says("LOOKED at: the number (from 0) of the first of these rows that is otherwise (-5: "
        + "none).", () -> {
      Check.due("an empty BOOK", Made.four().looked(), -5);
      for (int first = 0; first <= 8; first++) {
        HomeRounds x = Made.four();
        for (int row = 0; row < 8; row++) {
          // 0 has none, 1 has one BREAK.
          x.book(row % 2, row < first ? row % 2 : 1 - row % 2);
        }
        Check.due("the first otherwise", x.looked(), first == 8 ? -5 : first);
      }
      HomeRounds y = Made.six();
      for (int r = 0; r < 5; r++) {
        for (int k = 0; k < 3; k++) {
          if (y.game(r, k, 1) == 0) {
            y.turn(r, k);
          }
        }
      }
      y.book(0, 4);
      Check.due("4 BREAKS", y.looked(), -5);
    });
  }

  private static void image() {
    Doc.says("THE IMAGE: n, GROUNDS, ROUNDS, BARS, RATES, KIND, SEEN, EVENTS, the BOOK.", () -> {
      for (int n : Made.BOTH) {
        HomeRounds x = Made.full(n);
        HomeRounds same = Made.full(n);
        x.image();
        String tapes = Look.tape(x, 2);
        for (int i = 0; i < n; i++) {
          x.ground(i, 5, 5);
        }
        x.swap(0, 1);
        x.turn(2, 1);
        x.exchange(0, 2);
        x.bar(3, 0);
        x.rate(0, 1);
        x.rate(1, 1);
        x.rate(2, 99);
        x.rate(3, 1);
        x.kind(0);
        x.see(-1, 0, true);
        x.see(0, 0, false);
        x.event(-1, 0);
        x.event(1, 0);
        x.book(-1, 0);
        x.book(2, 4);
        Check.due("all is otherwise", !Look.at(x).equals(Look.at(same)));
        Check.due("undo", x.undo(), n);
        Check.due("all as it was", Look.at(x), Look.at(same));
        for (int i = 0; i < n; i++) {
          for (int r = 0; r < n - 1; r++) {
            for (int what = 0; what < 4; what++) {
              Check.due("of(" + i + ", " + r + ", " + what + ")", x.of(i, r, what),
                  same.of(i, r, what));
            }
          }
        }
        x.teams(10 - n);
        Check.due("undo of another n", x.undo(), n);
        Check.due("all as it was", Look.at(x), Look.at(same));
        x.feed(65);
        x.item(2, 0, 77);
        x.tape(5, 0, 1);
        x.undo();
        Check.due("THE TEXT is none of it", x.count(3), same.count(3) + 1);
        Check.due("TAPES are none of it", Look.tape(x, 2), tapes.replaceFirst("^-?\\d+", "77"));
        Check.due("TAPES are none of it", x.peek(5, 0), 0);
      }
    });
  }

  private static void tapes() {
    Doc.says("TAPES 0 .. 5 hold nothing (at first), or a row of 0 bytes, 1 shorts, 2 ints, 3 "
        + "longs, 4 booleans (items 0, 1).", () -> {
      HomeRounds x = Made.four();
      for (int tape = -1; tape < 7; tape++) {
        boolean is = tape >= 0 && tape < 6;
        Check.due("at first", x.item(tape, 0, 1), is ? -11 : -1);
        Check.due("at first", x.peek(tape, 0), Made.NO);
        Check.due("at first", x.shift(tape, 0, tape, 0, 0), is ? -11 : -1);
        Check.due("at first", x.judge(0, tape, 0), is ? 100 : -1);
        Check.due("a row", x.tape(tape, 2, 3), is ? 1 : -1);
      }
      long[][] least = {{-128, -129, 127}, {-32768, -32769, 32767}, {Made.MIN, Made.MIN - 1L,
          Made.MAX}, {Made.NO, Made.NO - 1, Long.MAX_VALUE}, {0, 0, 0}};
      for (int sort = 0; sort < 5; sort++) {
        x.tape(5, sort, 2);
        x.item(5, 0, least[sort][0]);
        x.item(5, 1, least[sort][1]);
        Check.due("the least of sort " + sort, x.peek(5, 0), least[sort][0]);
        Check.due("one less", x.peek(5, 1), least[sort][2]);
        x.item(5, 0, least[sort][2]);
        x.item(5, 1, least[sort][2] + 1);
        Check.due("the greatest of sort " + sort, x.peek(5, 0), least[sort][2]);
        Check.due("one more", x.peek(5, 1), sort == 4 ? 1 : least[sort][0]);
      }
    });
    Doc.says("Bits of WEAR of a TEAM told by a row of ints, from a place on, ROUND by ROUND "
        + "(behind it), are JUDGED: the first ROUND that is otherwise; -5: none; 100 and how many "
        + "were looked at, if the row ends ahead of that (or the place is below 0, or the TAPE "
        + "holds nothing).", AskedTermsEdges::judged);
  }

  private static void judged() {
    for (int n : Made.BOTH) {
      HomeRounds x = Made.apart(n);
      int team = n - 1;
      for (int place = 0; place < 3; place++) {
        for (int length = 0; length <= place + n; length++) {
          x.tape(0, 2, length);
          for (int r = 0; r < n - 1; r++) {
            x.item(0, place + r, x.wear(team, r));
          }
          int looked = Math.max(0, length - place);
          Check.due("a row of " + length + " from " + place, x.judge(team, 0, place),
              looked >= n - 1 ? -5 : 100 + looked);
          for (int wrong = 0; wrong < Math.min(looked, n - 1); wrong++) {
            long was = x.peek(0, place + wrong);
            x.item(0, place + wrong, was ^ 1);
            Check.due("otherwise in " + wrong, x.judge(team, 0, place), wrong);
            x.item(0, place + wrong, was);
          }
          Check.due("place -1", x.judge(team, 0, -1), 100);
          Check.due("place MIN", x.judge(team, 0, Made.MIN), 100);
          Check.due("place MAX", x.judge(team, 0, Made.MAX), 100);
          Check.due("place behind the end", x.judge(team, 0, length), 100);
        }
      }
      x.tape(0, -1, 0);
      Check.due("holds nothing", x.judge(team, 0, 0), 100);
      Check.due("holds nothing, below 0", x.judge(team, 0, -1), 100);
    }
  }

  private static void refusals() {
    Doc.says("The host's refusals: NOTHING (-11): nothing is there; CAST (-12): another sort; "
        + "PLACE (-13): no such place; SIZE (-14): a size below 0.", () -> {
      HomeRounds x = Made.four();
      x.tape(0, 0, 3);
      x.tape(1, 1, 3);
      Check.due("NOTHING", x.item(5, 0, 0), -11);
      Check.due("CAST", x.shift(0, 0, 1, 0, 1), -12);
      Check.due("PLACE", x.item(0, 3, 0), -13);
      Check.due("SIZE", x.tape(0, 0, -1), -14);
    });
    Doc.says("Bits of a float: floatToIntBits, of a double: doubleToLongBits.", () -> {
      for (int n : Made.BOTH) {
        HomeRounds x = Made.apart(n);
        for (int v = 0; v < 100; v++) {
          x.rate(3, v);
          float due = 10 / 10.0f * (float) x.told(1) + 1 / 10.0f * (float) x.told(3);
          due = due + v / 10.0f * (float) x.told(4);
          Check.due("COST by RATE " + v, x.cost(), Float.floatToIntBits(due));
          x.ground(2, v, 0);
          long bits = Double.doubleToLongBits(Made.spreadByWear(x));
          Check.due("SPREAD " + v, x.spread(0) << 32 | x.spread(1), bits);
        }
      }
      Check.due("0.0f", Made.four().wear(0, 0), Float.floatToIntBits(0.0f));
      Check.due("0.0", Made.four().spread(0) + Made.four().spread(1), 0);
      smallBits();
    });
    Doc.says("Answers: NONE (-1) no such number; BAD (-2) a number is not as told; STATE (-3) as "
        + "told; FULL (-4);", () -> {
      Check.due("NONE", HomeRounds.NONE * 10 + Made.four().game(3, 0, 0), -11);
      Check.due("BAD", HomeRounds.BAD * 10 + Made.four().teams(5), -22);
      Check.due("STATE", HomeRounds.STATE * 10 + Made.four().undo(), -33);
      HomeRounds x = Made.four();
      for (int row = 0; row < 8; row++) {
        x.book(0, 0);
      }
      Check.due("FULL", HomeRounds.FULL * 10 + x.book(0, 0), -44);
    });
    Doc.says("the first that a call's words name.", AskedTermsEdges::firstNamed);
    Doc.says("What is answered so changes nothing; what is asked changes nothing.",
        NothingEdges::run);
    Doc.says("The constants: `NO = Long.MIN_VALUE`: There is no such number.", () -> {
      Check.due("NO", HomeRounds.NO, Long.MIN_VALUE);
      Check.due("no such number", Made.four().wear(4, 0), HomeRounds.NO);
    });
  }

  /** What is far below 1.0. */
  private static void smallBits() {
    HomeRounds x = Made.six();
    x.ground(5, 1, 0);
    x.turn(0, 0);
    // 0 goes to 5, and back to the others' one place.
    float wear = (1.0f / 3.0f * 0.75f + 1.0f / 3.0f) * 0.75f * 0.75f * 0.75f;
    Check.due("WEAR", x.wear(0, 4), Float.floatToIntBits(wear));
    Check.due("it is small", wear < 0.25f);
    HomeRounds y = Made.barsCost(4);
    y.bar(0, 0);
    for (int v = 1; v < 20; v++) {
      y.rate(1, v);
      Check.due("COST " + v + " by 10", y.cost(), Float.floatToIntBits(v / 10.0f));
    }
    HomeRounds z = Made.four();
    z.ground(3, 1, 0);
    Check.due("SPREAD", Made.spreadOf(z) == Made.spreadByWear(z));
    Check.due("it is small", Made.spreadOf(z) < 0.25 && Made.spreadOf(z) > 0.0);
  }

  /** Where two refusals would do. */
  private static void firstNamed() {
    HomeRounds x = Made.four();
    Check.due("ground: NONE, BAD", x.ground(4, 100, -1), -1);
    Check.due("rate: NONE, BAD", x.rate(4, 100), -1);
    for (int i = 0; i < 8; i++) {
      x.see(0, 0, true);
      x.event(0, 0);
      x.book(0, 0);
    }
    while (x.feed(0) > 0) {
      Check.due("not full", x.count(3) <= 100);
    }
    Check.due("feed: BAD, FULL", x.feed(128), -2);
    Check.due("see: NONE, BAD, FULL", x.see(4, 10, true), -1);
    Check.due("see: BAD, FULL", x.see(0, 10, true), -2);
    Check.due("see: FULL", x.see(0, 9, true), -4);
    Check.due("event: NONE, FULL", x.event(4, 0), -1);
    Check.due("event: NONE by n, FULL", x.event(0, -1), -1);
    Check.due("event: NONE by a, FULL", x.event(0, 30), -1);
    Check.due("event: FULL", x.event(0, 0), -4);
    Check.due("book: NONE, BAD, FULL", x.book(4, 5), -1);
    Check.due("book: BAD, FULL", x.book(0, 5), -2);
    Check.due("book: FULL", x.book(0, 4), -4);
    x.tape(0, 0, 2);
    x.tape(1, 1, 2);
    Check.due("judge: NONE, CAST", x.judge(4, 0, 0), -1);
    Check.due("judge: CAST", x.judge(0, 0, 0), -12);
    Check.due("tape: NONE, BAD, SIZE", x.tape(6, 5, -1), -1);
    Check.due("tape: BAD, SIZE", x.tape(0, 5, -1), -2);
    Check.due("tape: BAD by sort and n", x.tape(0, 5, 61), -2);
    Check.due("tape: SIZE", x.tape(0, 4, -1), -14);
    Check.due("item: NONE, PLACE", x.item(6, -1, 0), -1);
    Check.due("item: NOTHING, PLACE", x.item(2, -1, 0), -11);
    Check.due("item: PLACE", x.item(0, -1, 0), -13);
    Check.due("shift: NONE, NOTHING, PLACE", x.shift(2, -1, 6, -1, -1), -1);
    Check.due("shift: NOTHING, PLACE", x.shift(0, -1, 2, -1, -1), -11);
    Check.due("shift: CAST, PLACE", x.shift(0, -1, 1, -1, -1), -12);
    Check.due("shift: PLACE", x.shift(0, -1, 0, -1, -1), -13);
  }
}
