/** Promises 26 to 33: what is seen, odds, means, events, books. */
public final class ToldTest {
  private static final int MIN = Integer.MIN_VALUE, MAX = Integer.MAX_VALUE;
  private static final long NO = Long.MIN_VALUE;

  public static void main(String[] args) {
    see();
    fits();
    odds();
    mean();
    event();
    eventNumbers();
    after();
    afterNothing();
    book();
    looked();
    Check.end("ToldTest");
  }

  private static HomeRounds six() {
    HomeRounds x = new HomeRounds();
    x.teams(6);
    return x;
  }

  private static void see() {
    HomeRounds x = new HomeRounds();
    for (int v : new int[] {MIN, -2, 4, MAX}) {
      Check.due("26 see(" + v + ", 10, true)", x.see(v, 10, true), -1);
    }
    for (int v : new int[] {MIN, -1, 10, MAX}) {
      Check.due("26 see(0, " + v + ", true)", x.see(0, v, true), -2);
    }
    Check.due("26 none came", x.count(0), 0);
    for (int i = 1; i <= 6; i++) {
      Check.due("26 see(3, 9, false), the row " + i, x.see(3, 9, false), i);
    }
    Check.due("26 the row 7", x.see(0, 0, true), -4);
    Check.due("26 BAD ahead of FULL", x.see(0, 10, true), -2);
    Check.due("26 NONE ahead of FULL", x.see(4, 0, true), -1);
    Check.due("26 see(-1, 77, true)", x.see(-1, 77, true), 0);
    Check.due("26 count(0)", x.count(0), 0);
    Check.due("26 see(0, 0, true)", x.see(0, 0, true), 1);
    Check.due("26 see(5, 0, true) of six", six().see(5, 0, true), 1);
  }

  private static void fits() {
    HomeRounds x = new HomeRounds();
    Check.due("27 by nothing SEEN all fit", x.fits(), 7);
    x.see(1, 0, true);
    Check.due("27 ROUND 0 as it is", x.fits(), 7);
    // TEAM 1 in THE SEASON: AGAIN 100011, BACK 100110, LAST 100101.
    x.see(1, 3, true);
    Check.due("27 ROUND 3", x.fits(), 6);
    x.see(1, 4, false);
    Check.due("27 ROUND 4", x.fits(), 4);
    x.see(1, 5, false);
    Check.due("27 none fits", x.fits(), 0);
    x.see(-1, 0, true);
    x.see(1, 4, true);
    Check.due("27 AGAIN and BACK", x.fits(), 3);
    x.kind(2);
    Check.due("27 whatever KIND is", x.fits(), 3);
    x.see(-1, 0, true);
    x.see(1, 1, true);
    Check.due("27 the first half is otherwise", x.fits(), 0);
    for (int r = 6; r < 10; r++) {
      for (int side = 0; side < 2; side++) {
        x.see(-1, 0, true);
        x.see(0, r, side == 1);
        Check.due("27 no such ROUND " + r, x.fits(), 0);
      }
    }
    HomeRounds y = six();
    y.see(5, 9, true);
    Check.due("27 ROUND 9 of six", y.fits(), 3);
  }

  private static void odds() {
    HomeRounds x = new HomeRounds();
    Check.due("28 odds(1, 0)", x.odds(1, 0), 3);
    Check.due("28 odds(1, 1)", x.odds(1, 1), 5);
    Check.due("28 odds(0, 0)", x.odds(0, 0), 0);
    Check.due("28 odds(0, 1)", x.odds(0, 1), 1);
    x.kind(2);
    Check.due("28 odds(0, 0) by LAST", x.odds(0, 0), 1);
    Check.due("28 odds(0, 1) by LAST", x.odds(0, 1), 5);
    HomeRounds y = six();
    Check.due("28 odds(1, 0) of six", y.odds(1, 0), 1);
    Check.due("28 odds(1, 1) of six", y.odds(1, 1), 3);
    Check.due("28 odds(5, 1) of six", y.odds(5, 1), 1);
    for (int v : new int[] {MIN, -1, 4, MAX}) {
      Check.due("28 odds(" + v + ", 0)", x.odds(v, 0), NO);
      Check.due("28 odds(0, " + v + ")", x.odds(0, v), NO);
    }
    Check.due("28 odds(0, 2)", x.odds(0, 2), NO);
  }

  private static void mean() {
    HomeRounds x = new HomeRounds();
    Check.due("29 mean(0)", x.mean(0), 1);
    Check.due("29 mean(1)", x.mean(1), 2);
    Check.due("29 mean(0) of six", six().mean(0), 2);
    Check.due("29 mean(1) of six", six().mean(1), 3);
    x.turn(0, 0);
    Check.due("29 mean(0) of 4 by 4", x.mean(0), 1);
    Check.due("29 mean(1) of 4 by 4", x.mean(1), 1);
    x.turn(0, 1);
    Check.due("29 mean(0) of 6 by 4", x.mean(0), 3);
    Check.due("29 mean(1) of 6 by 4", x.mean(1), 2);
    x.kind(1);
    Check.due("29 of the first half alone", x.mean(0), 3);
    for (int v : new int[] {MIN, -1, 2, MAX}) {
      Check.due("29 mean(" + v + ")", x.mean(v), NO);
    }
  }

  private static void event() {
    HomeRounds x = new HomeRounds();
    for (int v : new int[] {MIN, -2, 4, MAX}) {
      Check.due("30 event(" + v + ", 0)", x.event(v, 0), -1);
    }
    for (int what = 0; what < 4; what++) {
      for (int v : new int[] {MIN, -10, -1, 400, 1000, MAX}) {
        Check.due("30 event(" + what + ", " + v + ")", x.event(what, v), -1);
      }
    }
    for (int i = 1; i <= 8; i++) {
      Check.due("30 event(3, 9), the row " + i, x.event(3, 9), i);
    }
    Check.due("30 the row 9", x.event(3, 9), -4);
    Check.due("30 NONE ahead of FULL", x.event(3, 40), -1);
    Check.due("30 event(-1, -7)", x.event(-1, -7), 0);
    Check.due("30 count(1)", x.count(1), 0);
  }

  private static void eventNumbers() {
    int[][] right = {{0, 0}, {0, 22}, {0, 12}, {1, 0}, {1, 21}, {2, 33}, {2, 30}, {3, 39}};
    HomeRounds x = new HomeRounds();
    for (int i = 0; i < 8; i++) {
      String call = "30 event(" + right[i][0] + ", " + right[i][1] + ")";
      Check.due(call, x.event(right[i][0], right[i][1]), i + 1);
    }
    int[][] wrong = {{0, 3}, {0, 30}, {1, 2}, {1, 30}, {2, 4}, {2, 40}, {3, 40}};
    for (int[] row : wrong) {
      Check.due("30 event(" + row[0] + ", " + row[1] + ")", x.event(row[0], row[1]), -1);
    }
    HomeRounds y = six();
    int[][] rightOfSix = {{0, 44}, {1, 42}, {2, 55}};
    for (int i = 0; i < 3; i++) {
      String call = "30 event(" + rightOfSix[i][0] + ", " + rightOfSix[i][1] + ") of six";
      Check.due(call, y.event(rightOfSix[i][0], rightOfSix[i][1]), i + 1);
    }
    int[][] wrongOfSix = {{0, 5}, {0, 50}, {1, 3}, {1, 50}, {2, 6}, {2, 60}, {3, 40}};
    for (int[] row : wrongOfSix) {
      Check.due("30 event(" + row[0] + ", " + row[1] + ") of six", y.event(row[0], row[1]), -1);
    }
  }

  private static void after() {
    HomeRounds x = six();
    for (int i = 0; i < 6; i++) {
      x.ground(i, 7 * i, 50 - i);
    }
    x.bar(1, 0);
    x.bar(4, 1);
    int[][] rows = {{0, 14}, {1, 2}, {3, 39}, {2, 35}, {1, 41}, {3, 10}, {0, 2}};
    HomeRounds y = six();
    for (int i = 0; i < 6; i++) {
      y.ground(i, 7 * i, 50 - i);
    }
    y.bar(1, 0);
    y.bar(4, 1);
    for (int[] row : rows) {
      x.event(row[0], row[1]);
      int a = row[1] / 10;
      int b = row[1] % 10;
      switch (row[0]) {
        case 0 -> y.swap(a, b);
        case 1 -> y.turn(a, b);
        case 2 -> y.exchange(a, b);
        default -> y.rate(a, b);
      }
      long was = x.cost();
      Check.due("31 after(0)", x.after(0), y.told(1));
      Check.due("31 after(1)", x.after(1), y.told(2));
      Check.due("31 after(2)", x.after(2), y.cost());
      Check.due("31 nothing changes: COST", x.cost(), was);
    }
    Check.due("31 nothing changes: RATE", x.rateOf(1), 50);
    Check.due("31 nothing changes: GAMES", x.game(0, 0, 0), 0);
    Check.due("31 EVENTS stay", x.count(1), 7);
    for (int v : new int[] {MIN, -1, 3, MAX}) {
      Check.due("31 after(" + v + ")", x.after(v), NO);
    }
  }

  private static void afterNothing() {
    HomeRounds x = new HomeRounds();
    x.bar(0, 0);
    Check.due("31 after(0) of no EVENTS", x.after(0), 2);
    Check.due("31 after(1) of no EVENTS", x.after(1), 1);
    Check.due("31 after(2) of no EVENTS", x.after(2), x.cost());
    x.event(1, 0);
    Check.due("31 after(0), TURNED", x.after(0), 4);
    Check.due("31 after(1), TURNED", x.after(1), 0);
    x.turn(0, 0);
    Check.due("31 behind what is so by now", x.after(1), 1);
    x.event(-1, 0);
    Check.due("31 none then", x.after(0), 4);
  }

  private static void book() {
    HomeRounds x = new HomeRounds();
    for (int v : new int[] {MIN, -2, 4, MAX}) {
      Check.due("32 book(" + v + ", 5)", x.book(v, 5), -1);
    }
    for (int v : new int[] {MIN, -1, 5, MAX}) {
      Check.due("32 book(0, " + v + ")", x.book(0, v), -2);
    }
    Check.due("32 none came", x.count(2), 0);
    for (int i = 1; i <= 8; i++) {
      Check.due("32 book(3, 4), the row " + i, x.book(3, 4), i);
    }
    Check.due("32 the row 9", x.book(0, 0), -4);
    Check.due("32 BAD ahead of FULL", x.book(0, 5), -2);
    Check.due("32 NONE ahead of FULL", x.book(4, 0), -1);
    Check.due("32 book(-1, 99)", x.book(-1, 99), 0);
    Check.due("32 count(2)", x.count(2), 0);
    Check.due("32 book(5, 0) of six", six().book(5, 0), 1);
  }

  private static void looked() {
    HomeRounds x = new HomeRounds();
    Check.due("33 an empty BOOK", x.looked(), -5);
    x.book(0, 0);
    x.book(1, 1);
    x.book(1, 1);
    Check.due("33 all is so", x.looked(), -5);
    x.book(3, 1);
    x.book(2, 1);
    x.book(2, 0);
    Check.due("33 the first that is otherwise", x.looked(), 3);
    x.kind(1);
    Check.due("33 the first half alone", x.looked(), 3);
    x.turn(0, 0);
    Check.due("33 as it is by now", x.looked(), 0);
    x.book(-1, 0);
    Check.due("33 empty again", x.looked(), -5);
  }
}
