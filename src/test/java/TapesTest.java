/** Promises 34 to 41: judging, the image, counts, tapes. */
public final class TapesTest {
  private static final int MIN = Integer.MIN_VALUE, MAX = Integer.MAX_VALUE;
  private static final long NO = Long.MIN_VALUE;

  public static void main(String[] args) {
    judge();
    judgeRefused();
    image();
    undo();
    count();
    tape();
    item();
    peek();
    shift();
    shiftRefused();
    Check.end("TapesTest");
  }

  private static HomeRounds apart() {
    HomeRounds x = new HomeRounds();
    x.ground(1, 10, 0);
    x.ground(2, 0, 20);
    x.ground(3, 5, 5);
    return x;
  }

  private static void judge() {
    HomeRounds x = apart();
    x.tape(2, 2, 5);
    for (int r = 0; r < 3; r++) {
      x.item(2, 1 + r, x.wear(3, r));
    }
    Check.due("34 judge(3, 2, 1)", x.judge(3, 2, 1), -5);
    Check.due("34 judge(3, 2, 0)", x.judge(3, 2, 0), 0);
    Check.due("34 judge(0, 2, 0)", x.judge(0, 2, 0), 1);
    Check.due("34 judge(3, 2, 5)", x.judge(3, 2, 5), 100);
    Check.due("34 judge(3, 2, -1)", x.judge(3, 2, -1), 100);
    Check.due("34 judge(3, 2, MIN)", x.judge(3, 2, MIN), 100);
    Check.due("34 judge(3, 2, MAX)", x.judge(3, 2, MAX), 100);
    x.item(2, 3, x.wear(3, 2) + 1);
    Check.due("34 the last is otherwise", x.judge(3, 2, 1), 2);
    x.item(2, 4, x.wear(3, 0));
    Check.due("34 one was looked at", x.judge(3, 2, 4), 101);
    x.tape(2, 2, 2);
    x.item(2, 0, x.wear(3, 0));
    x.item(2, 1, x.wear(3, 1));
    Check.due("34 two were looked at", x.judge(3, 2, 0), 102);
    x.item(2, 1, 0);
    Check.due("34 otherwise ahead of the end", x.judge(3, 2, 0), 1);
    x.tape(2, 2, 0);
    Check.due("34 a row of no items", x.judge(3, 2, 0), 100);
    HomeRounds y = new HomeRounds();
    y.teams(6);
    y.tape(0, 2, 5);
    Check.due("34 all five ROUNDS", y.judge(5, 0, 0), -5);
    Check.due("34 four ROUNDS", y.judge(5, 0, 1), 104);
  }

  private static void judgeRefused() {
    HomeRounds x = new HomeRounds();
    Check.due("34 a TAPE that holds nothing", x.judge(0, 5, 0), 100);
    Check.due("34 nothing, below 0", x.judge(0, 5, -3), 100);
    for (int sort = 0; sort < 5; sort++) {
      x.tape(1, sort, 9);
      Check.due("34 sort " + sort, x.judge(0, 1, 0), sort == 2 ? -5 : -12);
      Check.due("34 sort " + sort + " below 0", x.judge(0, 1, -1), sort == 2 ? 100 : -12);
    }
    for (int v : new int[] {MIN, -1, 6, MAX}) {
      Check.due("34 judge(" + v + ", 1, 0)", x.judge(v, 1, 0), -1);
      Check.due("34 judge(0, " + v + ", 0)", x.judge(0, v, 0), -1);
    }
    Check.due("34 judge(4, 0, 0)", x.judge(4, 0, 0), -1);
  }

  private static void image() {
    HomeRounds x = new HomeRounds();
    Check.due("35 image()", x.image(), 4);
    x.teams(6);
    Check.due("35 image() of six", x.image(), 6);
    x.teams(4);
    Check.due("35 the later one", x.undo(), 6);
  }

  private static void undo() {
    HomeRounds x = new HomeRounds();
    Check.due("36 undo() of none", x.undo(), -3);
    x.teams(6);
    x.ground(5, 3, 4);
    x.turn(1, 1);
    x.bar(2, 3);
    x.rate(1, 11);
    x.kind(2);
    x.see(1, 9, true);
    x.event(1, 12);
    x.book(2, 3);
    x.image();
    long cost = x.cost();
    long later = x.after(2);
    int fits = x.fits();
    x.feed('a');
    x.tape(0, 3, 4);
    for (int time = 0; time < 2; time++) {
      x.teams(4);
      x.teams(6);
      x.ground(5, 0, 0);
      x.swap(0, 1);
      x.exchange(0, 3);
      x.bar(0, 0);
      x.rate(1, 0);
      x.kind(time);
      x.event(1, 0);
      x.book(1, 1);
      x.see(0, 0, false);
      x.teams(4);
      Check.due("36 undo()", x.undo(), 6);
      Check.due("36 n", x.told(0), 6);
      Check.due("36 GROUNDS", x.about(5, 4) * 10 + x.about(5, 5), 34);
      Check.due("36 ROUNDS", x.game(1, 1, 0), 0);
      Check.due("36 ROUND 0", x.game(0, 0, 1), 5);
      Check.due("36 of(0, 1, 1)", x.of(0, 1, 1), 1);
      Check.due("36 of(3, 0, 2)", x.of(3, 0, 2), 2);
      Check.due("36 BARS", x.told(6) + x.of(2, 3, 3), 2);
      Check.due("36 RATES", x.rateOf(1), 11);
      Check.due("36 KIND", x.told(7), 2);
      Check.due("36 SEEN", x.count(0), 1);
      Check.due("36 EVENTS", x.count(1), 1);
      Check.due("36 the BOOK", x.count(2), 1);
      Check.due("36 FITS", x.fits(), fits);
      Check.due("36 COST", x.cost(), cost);
      Check.due("36 AFTER", x.after(2), later);
      Check.due("36 LOOKED", x.looked(), 0);
    }
    Check.due("36 THE TEXT is none of THE IMAGE", x.count(3), 1);
    Check.due("36 nor are TAPES", x.peek(0, 3), 0);
  }

  private static void count() {
    HomeRounds x = new HomeRounds();
    x.see(0, 0, true);
    x.event(0, 0);
    x.event(0, 0);
    x.book(0, 0);
    x.book(0, 0);
    x.book(0, 0);
    for (int i = 0; i < 4; i++) {
      x.feed(0);
    }
    for (int what = 0; what < 4; what++) {
      Check.due("37 count(" + what + ")", x.count(what), what + 1);
    }
    for (int v : new int[] {MIN, -1, 4, MAX}) {
      Check.due("37 count(" + v + ")", x.count(v), -2);
    }
  }

  private static void tape() {
    HomeRounds x = new HomeRounds();
    for (int v : new int[] {MIN, -1, 6, MAX}) {
      Check.due("38 tape(" + v + ", 9, -1)", x.tape(v, 9, -1), -1);
    }
    for (int v : new int[] {MIN, -2, 5, MAX}) {
      Check.due("38 tape(0, " + v + ", -1)", x.tape(0, v, -1), -2);
    }
    Check.due("38 tape(0, 0, 61)", x.tape(0, 0, 61), -2);
    Check.due("38 tape(0, 0, MAX)", x.tape(0, 0, MAX), -2);
    Check.due("38 tape(0, 0, -1)", x.tape(0, 0, -1), -14);
    Check.due("38 tape(0, 0, MIN)", x.tape(0, 0, MIN), -14);
    Check.due("38 it still holds nothing", x.item(0, 0, 1), -11);
    for (int sort = 0; sort < 5; sort++) {
      Check.due("38 tape(5, " + sort + ", 60)", x.tape(5, sort, 60), 1);
      Check.due("38 all 0", x.peek(5, 59), 0);
      Check.due("38 no more than n", x.peek(5, 60), NO);
      Check.due("38 item", x.item(5, 59, 1), 1);
    }
    Check.due("38 a row again", x.tape(5, 4, 60), 1);
    Check.due("38 all 0 again", x.peek(5, 59), 0);
    Check.due("38 a row of none", x.tape(5, 3, 0), 1);
    Check.due("38 it has no place", x.item(5, 0, 1), -13);
    Check.due("38 tape(5, -1, 99)", x.tape(5, -1, 99), 1);
    Check.due("38 it holds nothing", x.item(5, 0, 1), -11);
    Check.due("38 nor has it a place", x.peek(5, 0), NO);
    Check.due("38 tape(5, -1, -99)", x.tape(5, -1, -99), 1);
  }

  private static void item() {
    HomeRounds x = new HomeRounds();
    long[] told = {0, 1, -1, 127, 128, 255, 32767, 32768, 1L << 31, (1L << 32) + 5, NO,
        Long.MAX_VALUE};
    for (int sort = 0; sort < 5; sort++) {
      x.tape(3, sort, 2);
      for (long v : told) {
        long want = sort == 0 ? (byte) v : sort == 1 ? (short) v : sort == 2 ? (int) v
            : sort == 3 ? v : v != 0 ? 1 : 0;
        Check.due("39 item(3, 1, " + v + ") of sort " + sort, x.item(3, 1, v), 1);
        Check.due("39 peek of " + v + " of sort " + sort, x.peek(3, 1), want);
        Check.due("39 the item ahead of it", x.peek(3, 0), 0);
      }
      for (int i : new int[] {MIN, -1, 2, 60, MAX}) {
        Check.due("39 item(3, " + i + ", 1)", x.item(3, i, 1), -13);
      }
    }
    for (int v : new int[] {MIN, -1, 6, MAX}) {
      Check.due("39 item(" + v + ", 0, 0)", x.item(v, 0, 0), -1);
    }
    Check.due("39 item(2, -1, 0)", x.item(2, -1, 0), -11);
  }

  private static void peek() {
    HomeRounds x = new HomeRounds();
    Check.due("40 peek of nothing", x.peek(0, 0), NO);
    x.tape(0, 3, 3);
    x.item(0, 2, -77);
    Check.due("40 peek(0, 2)", x.peek(0, 2), -77);
    for (int v : new int[] {MIN, -1, 3, MAX}) {
      Check.due("40 peek(0, " + v + ")", x.peek(0, v), NO);
    }
    for (int v : new int[] {MIN, -1, 6, MAX}) {
      Check.due("40 peek(" + v + ", 0)", x.peek(v, 0), NO);
    }
  }

  private static void shift() {
    HomeRounds x = new HomeRounds();
    x.tape(0, 1, 5);
    x.tape(1, 1, 3);
    for (int i = 0; i < 5; i++) {
      x.item(0, i, 10 + i);
    }
    Check.due("41 shift(0, 1, 1, 0, 3)", x.shift(0, 1, 1, 0, 3), 3);
    dueRow(x, 1, 11, 12, 13);
    dueRow(x, 0, 10, 11, 12, 13, 14);
    Check.due("41 upward", x.shift(0, 0, 0, 1, 4), 4);
    dueRow(x, 0, 10, 10, 11, 12, 13);
    Check.due("41 downward", x.shift(0, 1, 0, 0, 4), 4);
    dueRow(x, 0, 10, 11, 12, 13, 13);
    Check.due("41 one place", x.shift(0, 4, 1, 2, 1), 1);
    dueRow(x, 1, 11, 12, 13);
    Check.due("41 no items at both ends", x.shift(0, 5, 1, 3, 0), 0);
    dueRow(x, 1, 11, 12, 13);
  }

  private static void dueRow(HomeRounds x, int tape, int... items) {
    for (int i = 0; i < items.length; i++) {
      Check.due("41 peek(" + tape + ", " + i + ")", x.peek(tape, i), items[i]);
    }
  }

  private static void shiftRefused() {
    HomeRounds x = new HomeRounds();
    x.tape(0, 2, 4);
    x.tape(1, 2, 6);
    x.tape(2, 3, 6);
    for (int v : new int[] {MIN, -1, 6, MAX}) {
      Check.due("41 shift(" + v + ", 0, 0, 0, 1)", x.shift(v, 0, 0, 0, 1), -1);
      Check.due("41 shift(5, 0, " + v + ", 0, 1)", x.shift(5, 0, v, 0, 1), -1);
    }
    Check.due("41 from nothing", x.shift(5, 0, 0, -1, 1), -11);
    Check.due("41 to nothing", x.shift(0, 0, 5, -1, 1), -11);
    Check.due("41 unlike sorts", x.shift(0, -1, 2, 0, 1), -12);
    for (int v : new int[] {MIN, -1, 5, 7, MAX}) {
      Check.due("41 shift(0, " + v + ", 1, 0, 0)", x.shift(0, v, 1, 0, 0), -13);
      Check.due("41 shift(0, 0, 1, 0, " + v + ")", x.shift(0, 0, 1, 0, v), -13);
      Check.due("41 shift(1, 0, 0, " + v + ", 0)", x.shift(1, 0, 0, v, 0), -13);
    }
    Check.due("41 beyond the end of the first", x.shift(0, 2, 1, 0, 3), -13);
    Check.due("41 beyond the end of the other", x.shift(1, 0, 0, 2, 3), -13);
    Check.due("41 up to both ends", x.shift(0, 2, 0, 2, 2), 2);
  }
}
