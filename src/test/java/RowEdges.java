/** Promises 26 to 33: SEEN, odds, means, EVENTS, the BOOK. */
final class RowEdges {
  private static final int[] WRONG = {Made.MIN, -1, Made.MAX};

  private RowEdges() {}

  static void run() {
    see();
    fits();
    odds();
    mean();
    event();
    after();
    book();
    looked();
  }

  private static void see() {
    Doc.promise(26);
    Doc.says("What is SEEN comes: how many there are", () -> {
      HomeRounds x = Made.six();
      for (int row = 1; row <= 6; row++) {
        Check.due("row " + row, x.see(5, 9, row % 2 == 0), row);
        Check.due("count(0)", x.count(0), row);
      }
    });
    Doc.says("(team -1: none then, 0, whatever the rest is).", () -> {
      for (int rest : new int[] {Made.MIN, -1, 0, 9, 10, Made.MAX}) {
        HomeRounds x = Made.four();
        for (int row = 0; row < 6; row++) {
          x.see(0, 0, false);
        }
        Check.due("none SEEN, rest " + rest, x.see(-1, rest, rest > 0), 0);
        Check.due("count(0)", x.count(0), 0);
        Check.due("FITS", x.fits(), 7);
        Check.due("where there were none", x.see(-1, rest, true), 0);
        Check.due("then one", x.see(3, 0, true), 1);
      }
    });
    Doc.says("NONE: team;", () -> {
      for (int n : Made.BOTH) {
        for (int no : new int[] {Made.MIN, -2, n, Made.MAX}) {
          Check.due("team " + no, Made.of(n).see(no, 0, true), -1);
          Check.due("ahead of BAD, team " + no, Made.of(n).see(no, 10, true), -1);
        }
      }
    });
    Doc.says("BAD: r;", () -> {
      for (int no : new int[] {Made.MIN, -1, 10, Made.MAX}) {
        Check.due("r " + no, Made.four().see(0, no, true), -2);
      }
      Check.due("9 is none of these, of four", Made.four().see(0, 9, true), 1);
    });
    Doc.says("FULL: 6.", () -> {
      HomeRounds x = Made.four();
      for (int row = 1; row <= 6; row++) {
        Check.due("row " + row, x.see(0, 0, true), row);
      }
      Check.due("row 7", x.see(0, 0, false), -4);
      Check.due("still 6", x.count(0), 6);
      Check.due("none otherwise", x.fits(), 7);
      Check.due("NONE ahead of FULL", x.see(4, 0, true), -1);
      Check.due("BAD ahead of FULL", x.see(0, 10, true), -2);
    });
  }

  private static void fits() {
    Doc.promise(27);
    Doc.says("FITS (BITS).", () -> {
      for (int n : Made.BOTH) {
        for (int i = 0; i < n; i++) {
          for (int r = 0; r < 10; r++) {
            HomeRounds x = Made.of(n);
            x.see(i, r, true);
            int due = 0;
            for (int kind = 0; kind < 3; kind++) {
              x.kind(kind);
              due |= x.season(i, r, 1) == 1 ? 1 << kind : 0;
            }
            Check.due("HOME " + i + " in " + r, x.fits(), due);
            x.see(-1, 0, true);
            x.see(i, r, false);
            Check.due("AWAY " + i + " in " + r, x.fits(), r < 2 * (n - 1) ? 7 - due : 0);
          }
        }
      }
      Check.due("nothing SEEN", Made.six().fits(), 7);
    });
  }

  private static void odds() {
    Doc.promise(28);
    Doc.says("ODDS; part 0 above, 1 below the line.", () -> {
      // 1 of four is HAAAHH: 3 of 5; 1 of six HAAHAAHHAH: 3 of 9.
      Check.due("3 by 5, above", Made.four().odds(1, 0), 3);
      Check.due("3 by 5, below", Made.four().odds(1, 1), 5);
      Check.due("3 by 9, above", Made.six().odds(1, 0), 1);
      Check.due("3 by 9, below", Made.six().odds(1, 1), 3);
      Check.due("0 by 5, above", Made.four().odds(3, 0), 0);
      Check.due("0 by 5, below", Made.four().odds(3, 1), 1);
    });
    Doc.says("NO: team, part.", () -> {
      for (int n : Made.BOTH) {
        HomeRounds x = Made.of(n);
        for (int part = 0; part < 2; part++) {
          for (int no : new int[] {Made.MIN, -1, n, Made.MAX}) {
            Check.due("team " + no, x.odds(no, part), Made.NO);
          }
        }
        for (int no : new int[] {Made.MIN, -1, 2, Made.MAX}) {
          Check.due("part " + no, x.odds(0, no), Made.NO);
        }
      }
    });
  }

  private static void mean() {
    Doc.promise(29);
    Doc.says("MEAN; part likewise.", () -> {
      Check.due("2 by 4, above", Made.four().mean(0), 1);
      Check.due("2 by 4, below", Made.four().mean(1), 2);
      Check.due("4 by 6, above", Made.six().mean(0), 2);
      Check.due("4 by 6, below", Made.six().mean(1), 3);
    });
    Doc.says("NO.", () -> {
      for (int no : new int[] {Made.MIN, -1, 2, Made.MAX}) {
        Check.due("part " + no, Made.four().mean(no), Made.NO);
      }
    });
  }

  private static void event() {
    Doc.promise(30);
    Doc.says("A row comes to EVENTS: how many there are", () -> {
      HomeRounds x = Made.four();
      for (int row = 1; row <= 8; row++) {
        Check.due("row " + row, x.event(row % 4, 0), row);
        Check.due("count(1)", x.count(1), row);
      }
    });
    Doc.says("(what -1: none then, 0, whatever the rest is).", () -> {
      for (int rest : new int[] {Made.MIN, -1, 0, 22, 99, Made.MAX}) {
        HomeRounds x = Made.four();
        for (int row = 0; row < 8; row++) {
          x.event(3, 9);
        }
        Check.due("none, rest " + rest, x.event(-1, rest), 0);
        Check.due("count(1)", x.count(1), 0);
        Check.due("AFTER nothing", x.after(2), x.cost());
        Check.due("where there were none", x.event(-1, rest), 0);
        Check.due("then one", x.event(1, 0), 1);
      }
    });
    Doc.says("NONE: what (0 .. 3), n is below 0, ROUND, GAME, TEAM, RATE a, b (b of RATE: 0 .. 9);",
        () -> {
      for (int n : Made.BOTH) {
        HomeRounds x = Made.of(n);
        for (int no : new int[] {Made.MIN, -2, 4, Made.MAX}) {
          Check.due("what " + no, x.event(no, 0), -1);
        }
        for (int no : new int[] {Made.MIN, -10, -1, 100, 1000, Made.MAX}) {
          for (int what = 0; what < 4; what++) {
            Check.due(what + ", n " + no, x.event(what, no), -1);
          }
        }
        int[] ends = {n - 1, n - 1, n, 4};
        int[] ends2 = {n - 1, n / 2, n, 10};
        for (int what = 0; what < 4; what++) {
          for (int a = 0; a < 10; a++) {
            for (int b = 0; b < 10; b++) {
              boolean is = a < ends[what] && b < ends2[what];
              Check.due(what + ", " + a + ", " + b, x.event(what, 10 * a + b), is ? 1 : -1);
              x.event(-1, 0);
            }
          }
        }
      }
    });
    Doc.says("FULL: 8.", () -> {
      HomeRounds x = Made.four();
      for (int row = 1; row <= 8; row++) {
        Check.due("row " + row, x.event(1, 0), row);
      }
      Check.due("row 9", x.event(1, 0), -4);
      Check.due("still 8", x.count(1), 8);
      Check.due("turned 8 times", x.after(0), x.told(1));
      Check.due("NONE ahead of FULL", x.event(1, 2), -1);
    });
  }

  private static void after() {
    Doc.promise(31);
    Doc.says("AFTER: what 0 BREAKS, 1 VIOLATED, 2 bits of COST.", () -> {
      HomeRounds x = Made.four();
      x.bar(3, 0);
      Check.due("BREAKS of no EVENTS", x.after(0), 2);
      Check.due("VIOLATED of no EVENTS", x.after(1), 0);
      Check.due("COST of no EVENTS", x.after(2), x.cost());
      x.event(1, 0);
      Check.due("BREAKS", x.after(0), 4);
      Check.due("VIOLATED", x.after(1), 1);
      float due = 1.0f * 4.0f + 5.0f;
      Check.due("COST", x.after(2), Float.floatToIntBits(due + 0.1f * 8.0f));
      x.event(3, 0);
      due = 0.0f * 4.0f + 5.0f;
      Check.due("COST by another RATE", x.after(2), Float.floatToIntBits(due + 0.1f * 8.0f));
      Check.due("asked only", x.rateOf(0) * 100 + x.told(1) * 10 + x.told(2), 1020);
    });
    Doc.says("NO.", () -> {
      for (int no : new int[] {Made.MIN, -1, 3, Made.MAX}) {
        Check.due("after(" + no + ")", Made.full(4).after(no), Made.NO);
      }
    });
  }

  private static void book() {
    Doc.promise(32);
    Doc.says("A row comes to the BOOK: how many there are", () -> {
      HomeRounds x = Made.six();
      for (int row = 1; row <= 8; row++) {
        Check.due("row " + row, x.book(row % 6, row % 5), row);
        Check.due("count(2)", x.count(2), row);
      }
    });
    Doc.says("(team -1: it is empty then, 0, whatever the rest is).", () -> {
      for (int rest : new int[] {Made.MIN, -1, 0, 4, 5, Made.MAX}) {
        HomeRounds x = Made.four();
        for (int row = 0; row < 8; row++) {
          x.book(0, 4);
        }
        Check.due("empty, rest " + rest, x.book(-1, rest), 0);
        Check.due("count(2)", x.count(2), 0);
        Check.due("LOOKED", x.looked(), -5);
        Check.due("where it was empty", x.book(-1, rest), 0);
        Check.due("then one", x.book(3, 0), 1);
      }
    });
    Doc.says("NONE: team;", () -> {
      for (int n : Made.BOTH) {
        for (int no : new int[] {Made.MIN, -2, n, Made.MAX}) {
          Check.due("team " + no, Made.of(n).book(no, 0), -1);
          Check.due("ahead of BAD, team " + no, Made.of(n).book(no, 5), -1);
        }
        Check.due("the last is one", Made.of(n).book(n - 1, 0), 1);
      }
    });
    Doc.says("BAD: n;", () -> {
      for (int no : new int[] {Made.MIN, -1, 5, Made.MAX}) {
        Check.due("n " + no, Made.six().book(0, no), -2);
      }
      Check.due("4 is none of these, of four", Made.four().book(0, 4), 1);
    });
    Doc.says("FULL: 8.", () -> {
      HomeRounds x = Made.four();
      for (int row = 1; row <= 8; row++) {
        Check.due("row " + row, x.book(0, 0), row);
      }
      Check.due("row 9", x.book(0, 4), -4);
      Check.due("still 8", x.count(2), 8);
      Check.due("none otherwise", x.looked(), -5);
      Check.due("NONE ahead of FULL", x.book(4, 0), -1);
      Check.due("BAD ahead of FULL", x.book(0, 5), -2);
    });
  }

  private static void looked() {
    Doc.promise(33);
    Doc.says("LOOKED at; -5.", () -> {
      HomeRounds x = Made.four();
      Check.due("empty", x.looked(), -5);
      for (int i = 0; i < 4; i++) {
        x.book(i, x.about(i, 1));
        x.book(i, x.about(i, 1));
      }
      Check.due("all so", x.looked(), -5);
      x.turn(2, 0);
      // 2 has no BREAK any more: the rows 4 and 5 are otherwise.
      Check.due("the first otherwise", x.looked(), 4);
      x.book(-1, 0);
      x.book(0, 1);
      Check.due("the row 0", x.looked(), 0);
      for (int no : WRONG) {
        Check.due("nothing else is asked", x.book(0, no), -2);
      }
    });
  }
}
