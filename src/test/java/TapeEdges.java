/** Promises 34 to 41: judging, THE IMAGE, counts, TAPES. */
final class TapeEdges {
  private static final int[] WRONG = {Made.MIN, -1, 6, 7, Made.MAX};

  private TapeEdges() {}

  static void run() {
    judge();
    image();
    undo();
    count();
    tape();
    item();
    peek();
    shift();
  }

  private static void judge() {
    Doc.promise(34);
    Doc.says("JUDGED, a TEAM from place i of a TAPE on.", () -> {
      HomeRounds x = Made.apart(4);
      x.tape(5, 2, 60);
      for (int r = 0; r < 3; r++) {
        x.item(5, 57 + r, x.wear(1, r));
        x.item(5, r, x.wear(2, r));
      }
      Check.due("up to the end", x.judge(1, 5, 57), -5);
      Check.due("from the first place", x.judge(2, 5, 0), -5);
      Check.due("of another TEAM", x.judge(1, 5, 0), x.wear(1, 0) == x.wear(2, 0) ? 1 : 0);
      x.item(5, 58, x.wear(1, 0));
      x.item(5, 59, x.wear(1, 1));
      Check.due("it ends behind two", x.judge(1, 5, 58), 102);
      x.item(5, 59, x.wear(1, 0));
      Check.due("it ends behind one", x.judge(1, 5, 59), 101);
      Check.due("it ends at once", x.judge(1, 5, 60), 100);
      Check.due("place -1", x.judge(1, 5, -1), 100);
      x.item(5, 59, x.wear(1, 0) + 1);
      Check.due("otherwise ahead of the end", x.judge(1, 5, 59), 0);
      x.tape(5, 2, 0);
      Check.due("a row of none", x.judge(1, 5, 0), 100);
      x.tape(5, -1, 0);
      Check.due("nothing there", x.judge(1, 5, 0), 100);
    });
    Doc.says("NONE: team, tape;", () -> {
      for (int n : Made.BOTH) {
        HomeRounds x = Made.of(n);
        x.tape(0, 2, 9);
        x.tape(1, 3, 9);
        for (int no : new int[] {Made.MIN, -1, n, Made.MAX}) {
          Check.due("team " + no, x.judge(no, 0, 0), -1);
          Check.due("ahead of CAST, team " + no, x.judge(no, 1, 0), -1);
          Check.due("where nothing is, team " + no, x.judge(no, 2, 0), -1);
        }
        for (int no : WRONG) {
          Check.due("tape " + no, x.judge(0, no, 0), -1);
        }
      }
    });
    Doc.says("CAST: it is no row of ints.", () -> {
      HomeRounds x = Made.four();
      for (int sort = 0; sort < 5; sort++) {
        for (int n : new int[] {0, 1, 60}) {
          x.tape(0, sort, n);
          int due = sort != 2 ? -12 : n == 60 ? -5 : 100 + n;
          Check.due("sort " + sort + ", n " + n, x.judge(0, 0, 0), due);
        }
      }
    });
  }

  private static void image() {
    Doc.promise(35);
    Doc.says("THE IMAGE is taken: n.", () -> {
      HomeRounds x = Made.four();
      Check.due("of four", x.image(), 4);
      x.teams(6);
      Check.due("not yet another", x.undo(), 4);
      x.teams(6);
      Check.due("of six", x.image(), 6);
      x.bar(1, 1);
      Check.due("the same n again", x.image(), 6);
      x.teams(4);
      Check.due("the last one counts", x.undo(), 6);
      Check.due("its BAR", Look.bars(x), "1@1");
    });
  }

  private static void undo() {
    Doc.promise(36);
    Doc.says("All is as THE IMAGE: n.", () -> {
      HomeRounds x = Made.four();
      x.image();
      x.teams(6);
      x.ground(0, 1, 1);
      x.rate(0, 0);
      x.kind(1);
      x.turn(0, 0);
      Check.due("undo", x.undo(), 4);
      Check.due("all", Look.at(x), Look.at(Made.four()));
      Check.due("and again", x.undo(), 4);
      Check.due("all", Look.at(x), Look.at(Made.four()));
      x.turn(1, 1);
      x.bar(0, 0);
      Check.due("THE IMAGE does not go along", x.undo() * 10 + x.told(6), 40);
      Check.due("ROUNDS", Look.rounds(x), Made.CIRCLE_4);
      // A TEAM 5 that THE IMAGE has, and four have not.
      HomeRounds y = Made.six();
      y.ground(5, 7, 8);
      y.event(2, 55);
      y.image();
      y.teams(4);
      Check.due("undo of six", y.undo(), 6);
      Check.due("GROUND of 5", y.about(5, 4) * 10 + y.about(5, 5), 78);
      Check.due("EVENTS", y.count(1), 1);
      Check.due("AFTER", y.after(0), 4);
    });
    Doc.says("STATE: there is none.", () -> {
      HomeRounds x = Made.four();
      Check.due("at first", x.undo(), -3);
      x.teams(6);
      Check.due("still none", x.undo(), -3);
      Check.due("nothing changed", x.told(0), 6);
      x.image();
      Check.due("then there is one", x.undo(), 6);
      x.teams(4);
      x.teams(6);
      Check.due("it stays", x.undo(), 6);
    });
  }

  private static void count() {
    Doc.promise(37);
    Doc.says("How many: 0 SEEN, 1 EVENTS, 2 of the BOOK, 3 bytes of THE TEXT.", () -> {
      HomeRounds x = Made.four();
      Check.due("none at first", Look.counts(x), "0 0 0 0");
      for (int i = 0; i < 120; i++) {
        x.see(0, 0, true);
        x.event(0, 0);
        x.book(0, 0);
        x.feed(0);
        int six = Math.min(6, i + 1);
        int eight = Math.min(8, i + 1);
        String due = six + " " + eight + " " + eight + " " + Math.min(100, i + 1);
        // Each turn asks 4: this is within what an object is used for.
        if (i < 10 || i == 63) {
          Check.due("behind " + i, Look.counts(x), due);
        }
        if (i == 99) {
          break;
        }
      }
      Check.due("all full", Look.counts(x), "6 8 8 100");
    });
    Doc.says("BAD.", () -> {
      for (int no : new int[] {Made.MIN, -1, 4, Made.MAX}) {
        Check.due("count(" + no + ")", Made.four().count(no), -2);
      }
    });
  }

  private static void tape() {
    Doc.promise(38);
    Doc.says("A TAPE becomes a row of n (0 .. 60) of a sort, all 0, or holds nothing (sort -1: n "
        + "does not matter): 1.", () -> {
      for (int sort = 0; sort < 5; sort++) {
        HomeRounds x = Made.four();
        for (int n : new int[] {0, 1, 59, 60}) {
          Check.due("a row of " + n, x.tape(5, sort, n), 1);
          Check.due("its last place", x.peek(5, n - 1), n == 0 ? Made.NO : 0);
          Check.due("no place more", x.peek(5, n), Made.NO);
          Check.due("no place more", x.item(5, n, 1), -13);
          if (n > 0) {
            x.item(5, n - 1, 1);
            x.item(5, 0, 1);
            Check.due("anew, the same", x.tape(5, sort, n), 1);
            Check.due("all 0", x.peek(5, n - 1) + x.peek(5, 0), 0);
            x.item(5, n - 1, 1);
          }
        }
        // What was in a longer row is not there when it is long again.
        x.item(5, 40, 1);
        x.tape(5, sort, 2);
        x.tape(5, sort, 60);
        Check.due("all 0", x.peek(5, 40) + x.peek(5, 59), 0);
        for (int n : new int[] {Made.MIN, -1, 0, 60, 61, Made.MAX}) {
          Check.due("nothing, n " + n, x.tape(5, -1, n), 1);
          Check.due("nothing is there", x.item(5, 0, 1), -11);
          Check.due("nothing is there", x.peek(5, 0), Made.NO);
        }
      }
    });
    Doc.says("NONE: tape;", () -> {
      for (int no : WRONG) {
        Check.due("tape " + no, Made.four().tape(no, 0, 1), -1);
        Check.due("ahead of BAD, tape " + no, Made.four().tape(no, 5, 61), -1);
        Check.due("ahead of SIZE, tape " + no, Made.four().tape(no, 0, -1), -1);
        Check.due("sort -1, tape " + no, Made.four().tape(no, -1, 0), -1);
      }
    });
    Doc.says("BAD: sort, n above 60;", () -> {
      for (int no : new int[] {Made.MIN, -2, 5, Made.MAX}) {
        Check.due("sort " + no, Made.four().tape(0, no, 1), -2);
        Check.due("ahead of SIZE, sort " + no, Made.four().tape(0, no, -1), -2);
      }
      for (int sort = 0; sort < 5; sort++) {
        Check.due("n 61", Made.four().tape(0, sort, 61), -2);
        Check.due("n MAX", Made.four().tape(0, sort, Made.MAX), -2);
      }
    });
    Doc.says("SIZE.", () -> {
      for (int sort = 0; sort < 5; sort++) {
        Check.due("n -1", Made.four().tape(0, sort, -1), -14);
        Check.due("n MIN", Made.four().tape(0, sort, Made.MIN), -14);
      }
    });
  }

  private static void item() {
    Doc.promise(39);
    Doc.says("Item i of a TAPE becomes v (its lowest bits, as many as an item has; booleans: "
        + "whether v is not 0): 1.", () -> {
      long[] values = {0, 1, -1, 127, 128, -128, -129, 255, 256, 32767, 32768, -32768, -32769,
          65535, 65536, Made.MAX, Made.MAX + 1L, Made.MIN, Made.MIN - 1L, 1L << 32, (1L << 32) - 1,
          1L << 63, Long.MAX_VALUE, 0x123456789ABCDEF0L};
      for (int sort = 0; sort < 5; sort++) {
        HomeRounds x = Made.four();
        x.tape(0, sort, 3);
        for (long v : values) {
          long due = sort == 0 ? (byte) v : sort == 1 ? (short) v : sort == 2 ? (int) v
              : sort == 3 ? v : v != 0 ? 1 : 0;
          Check.due("item", x.item(0, 1, v), 1);
          Check.due(v + " of sort " + sort, x.peek(0, 1), due);
        }
        Check.due("no other place", x.peek(0, 0) + x.peek(0, 2), 0);
        Check.due("the first place", x.item(0, 0, 1), 1);
        Check.due("the last place", x.item(0, 2, 1), 1);
      }
    });
    Doc.says("NONE; NOTHING; PLACE.", () -> {
      HomeRounds x = Made.four();
      x.tape(0, 2, 3);
      x.tape(1, 2, 0);
      for (int no : WRONG) {
        Check.due("tape " + no, x.item(no, 0, 1), -1);
      }
      for (int i : new int[] {Made.MIN, -1, 3, 4, 60, Made.MAX}) {
        Check.due("place " + i, x.item(0, i, 1), -13);
        Check.due("place " + i + " where nothing is", x.item(5, i, 1), -11);
        Check.due("place " + i + " of none", x.item(1, i, 1), -13);
      }
      Check.due("place 0 of none", x.item(1, 0, 1), -13);
      Check.due("NONE ahead of all", x.item(6, -1, 1), -1);
    });
  }

  private static void peek() {
    Doc.promise(40);
    Doc.says("Item i of a TAPE.", () -> {
      HomeRounds x = Made.four();
      x.tape(3, 3, 60);
      x.item(3, 0, 5);
      x.item(3, 59, -6);
      Check.due("the first", x.peek(3, 0), 5);
      Check.due("the last", x.peek(3, 59), -6);
      Check.due("in between", x.peek(3, 30), 0);
      x.item(3, 1, Made.NO);
      Check.due("an item that is like NO", x.peek(3, 1), Made.NO);
    });
    Doc.says("NO: no such TAPE, nothing there, no such place.", () -> {
      HomeRounds x = Made.four();
      x.tape(0, 3, 60);
      x.tape(1, 4, 3);
      for (int no : WRONG) {
        Check.due("tape " + no, x.peek(no, 0), Made.NO);
      }
      Check.due("nothing there", x.peek(5, 0), Made.NO);
      for (int i : new int[] {Made.MIN, -1, 60, 61, Made.MAX}) {
        Check.due("place " + i, x.peek(0, i), Made.NO);
      }
      Check.due("place 3 of 3", x.peek(1, 3), Made.NO);
      x.tape(0, -1, 0);
      Check.due("nothing there any more", x.peek(0, 0), Made.NO);
    });
  }

  /** TAPE 0 is 1 2 3 4 5, TAPE 1 is 11 12 13, both of ints. */
  private static HomeRounds two() {
    HomeRounds x = Made.four();
    x.tape(0, 2, 5);
    x.tape(1, 2, 3);
    for (int i = 0; i < 5; i++) {
      x.item(0, i, 1 + i);
      x.item(1, i, 11 + i);
    }
    return x;
  }

  private static void dueShift(int[] call, String zero, String one) {
    HomeRounds x = two();
    String told = "shift " + java.util.Arrays.toString(call);
    Check.due(told, x.shift(call[0], call[1], call[2], call[3], call[4]), call[4]);
    Check.due(told + ", TAPE 0", Look.tape(x, 0), zero);
    Check.due(told + ", TAPE 1", Look.tape(x, 1), one);
  }

  private static void shift() {
    Doc.promise(41);
    Doc.says("n items of a TAPE from i on come to another one (or the same) from j on, as they all "
        + "were before: n.", () -> {
      dueShift(new int[] {0, 0, 1, 0, 3}, "1 2 3 4 5", "1 2 3");
      dueShift(new int[] {0, 2, 1, 0, 3}, "1 2 3 4 5", "3 4 5");
      dueShift(new int[] {1, 0, 0, 2, 3}, "1 2 11 12 13", "11 12 13");
      dueShift(new int[] {0, 4, 1, 2, 1}, "1 2 3 4 5", "11 12 5");
      dueShift(new int[] {0, 0, 0, 1, 4}, "1 1 2 3 4", "11 12 13");
      dueShift(new int[] {0, 1, 0, 0, 4}, "2 3 4 5 5", "11 12 13");
      dueShift(new int[] {0, 0, 0, 2, 3}, "1 2 1 2 3", "11 12 13");
      dueShift(new int[] {0, 2, 0, 0, 3}, "3 4 5 4 5", "11 12 13");
      dueShift(new int[] {0, 0, 0, 0, 5}, "1 2 3 4 5", "11 12 13");
      dueShift(new int[] {0, 0, 1, 0, 0}, "1 2 3 4 5", "11 12 13");
      dueShift(new int[] {0, 5, 1, 3, 0}, "1 2 3 4 5", "11 12 13");
      HomeRounds x = Made.four();
      for (int sort = 0; sort < 5; sort++) {
        x.tape(0, sort, 60);
        x.tape(5, sort, 60);
        x.item(0, 0, 1);
        x.item(0, 59, 1);
        Check.due("all 60 of sort " + sort, x.shift(0, 0, 5, 0, 60), 60);
        Check.due("they came", x.peek(5, 0) * 10 + x.peek(5, 59), 11);
      }
    });
    Doc.says("NONE: tapes; NOTHING; CAST: of unlike sorts;", () -> {
      HomeRounds x = two();
      x.tape(2, 3, 5);
      for (int no : WRONG) {
        Check.due("from " + no, x.shift(no, 0, 0, 0, 1), -1);
        Check.due("to " + no, x.shift(0, 0, no, 0, 1), -1);
        Check.due("NONE ahead of NOTHING", x.shift(5, 0, no, 0, 1), -1);
        Check.due("NONE ahead of NOTHING", x.shift(no, 0, 5, 0, 1), -1);
      }
      Check.due("from nothing", x.shift(5, 0, 0, 0, 1), -11);
      Check.due("to nothing", x.shift(0, 0, 5, 0, 1), -11);
      Check.due("both nothing", x.shift(5, 0, 5, 0, 0), -11);
      Check.due("NOTHING ahead of PLACE", x.shift(5, -1, 0, 99, -1), -11);
      for (int from = 0; from < 5; from++) {
        for (int to = 0; to < 5; to++) {
          x.tape(3, from, 2);
          x.tape(4, to, 2);
          Check.due(from + " to " + to, x.shift(3, 0, 4, 0, 2), from == to ? 2 : -12);
          Check.due(from + " to " + to + ", none", x.shift(3, 0, 4, 0, 0), from == to ? 0 : -12);
          Check.due("CAST ahead of PLACE", x.shift(3, 0, 4, 0, 3), from == to ? -13 : -12);
        }
      }
    });
    Doc.says("PLACE: n, i or j is below 0, or beyond either's end.", () -> {
      HomeRounds x = two();
      for (int no : new int[] {Made.MIN, -1, 6, Made.MAX}) {
        Check.due("i " + no, x.shift(0, no, 1, 0, 0), -13);
        Check.due("i " + no, x.shift(0, no, 1, 0, 1), -13);
        Check.due("j " + no, x.shift(1, 0, 0, no, 0), -13);
        Check.due("j " + no, x.shift(1, 0, 0, no, 1), -13);
        Check.due("n " + no, x.shift(0, 0, 0, 0, no), -13);
      }
      Check.due("one beyond the end of the first", x.shift(1, 0, 0, 0, 4), -13);
      Check.due("one beyond the end of the other", x.shift(0, 0, 1, 0, 4), -13);
      Check.due("from the end on", x.shift(0, 5, 1, 0, 1), -13);
      Check.due("to the end on", x.shift(0, 0, 1, 3, 1), -13);
      Check.due("i and n go round", x.shift(0, 1, 0, 0, Made.MAX), -13);
      Check.due("j and n go round", x.shift(0, 0, 0, Made.MAX, 1), -13);
      Check.due("i and n go round", x.shift(0, Made.MAX, 0, 0, Made.MAX), -13);
      Check.due("TAPE 0", Look.tape(x, 0), "1 2 3 4 5");
      Check.due("TAPE 1", Look.tape(x, 1), "11 12 13");
      Check.due("just up to both ends", x.shift(0, 3, 1, 1, 2), 2);
    });
  }
}
