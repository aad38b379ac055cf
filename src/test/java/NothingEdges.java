/** What is refused, and what is asked, changes nothing: held against a twin left alone. */
final class NothingEdges {
  private interface Call {
    long on(HomeRounds x);
  }

  private interface Start {
    HomeRounds made();
  }

  private NothingEdges() {}

  static void run() {
    asked();
    for (int n : Made.BOTH) {
      changesRefused(n);
      asksRefused(n);
      rowsRefused(n);
      tapesRefused(n);
    }
    fullRefused();
    emptyRefused();
  }

  private static void same(String call, Start start, Call done) {
    HomeRounds x = start.made();
    done.on(x);
    Check.due(call + ": all", Look.through(x), Look.through(start.made()));
  }

  private static void refused(int n, String call, long due, Call done) {
    Check.due(call, done.on(Made.full(n)), due);
    same(call + " of " + n, () -> Made.full(n), done);
  }

  static void asked() {
    for (int n : Made.BOTH) {
      askedOf(() -> Made.full(n));
      askedOf(() -> Made.of(n));
    }
  }

  private static void askedOf(Start start) {
    same("game", start, x -> x.game(1, 1, 0) + x.game(1, 1, 1));
    same("of", start, x -> x.of(1, 1, 0) + x.of(1, 1, 1) + x.of(1, 1, 2) + x.of(1, 1, 3));
    same("season", start, x -> x.season(1, 4, 0) + x.season(1, 4, 1));
    same("when", start, x -> x.when(0, 2));
    same("about", start, x -> {
      long sum = 0;
      for (int what = 0; what < 7; what++) {
        sum += x.about(1, what);
      }
      return sum;
    });
    same("carried", start, x -> x.carried(0, 2));
    same("loop", start, x -> x.loop(0, 2, 1));
    same("told", start, x -> {
      long sum = 0;
      for (int what = 0; what < 10; what++) {
        sum += x.told(what);
      }
      return sum;
    });
    same("rateOf", start, x -> x.rateOf(3));
    same("wear", start, x -> x.wear(3, 2));
    same("cost", start, HomeRounds::cost);
    same("would", start, x -> x.would(0, 0) + x.would(1, 1) + x.would(2, 1));
    same("spread", start, x -> x.spread(0) + x.spread(1));
    same("fits", start, HomeRounds::fits);
    same("odds", start, x -> x.odds(1, 0) + x.odds(1, 1));
    same("mean", start, x -> x.mean(0) + x.mean(1));
    same("after", start, x -> x.after(0) + x.after(1) + x.after(2));
    same("looked", start, HomeRounds::looked);
    same("judge", start, x -> x.judge(1, 2, 0) + x.judge(1, 5, 0));
    same("count", start, x -> x.count(0) + x.count(1) + x.count(2) + x.count(3));
    same("peek", start, x -> x.peek(2, 1) + x.peek(4, 1));
  }

  private static void changesRefused(int n) {
    refused(n, "teams(5)", -2, x -> x.teams(5));
    refused(n, "ground(n, 1, 1)", -1, x -> x.ground(n, 1, 1));
    refused(n, "ground(-1, 1, 1)", -1, x -> x.ground(-1, 1, 1));
    refused(n, "ground(0, 100, 1)", -2, x -> x.ground(0, 100, 1));
    refused(n, "ground(0, 1, -1)", -2, x -> x.ground(0, 1, -1));
    refused(n, "swap(n - 1, 0)", -1, x -> x.swap(n - 1, 0));
    refused(n, "swap(0, -1)", -1, x -> x.swap(0, -1));
    refused(n, "turn(n - 1, 0)", -1, x -> x.turn(n - 1, 0));
    refused(n, "turn(0, n / 2)", -1, x -> x.turn(0, n / 2));
    refused(n, "exchange(n, 0)", -1, x -> x.exchange(n, 0));
    refused(n, "exchange(0, -1)", -1, x -> x.exchange(0, -1));
    refused(n, "bar(n, 0)", -1, x -> x.bar(n, 0));
    refused(n, "bar(0, n - 1)", -1, x -> x.bar(0, n - 1));
    refused(n, "rate(4, 1)", -1, x -> x.rate(4, 1));
    refused(n, "rate(0, 100)", -2, x -> x.rate(0, 100));
    refused(n, "rate(0, -1)", -2, x -> x.rate(0, -1));
    refused(n, "kind(3)", -2, x -> x.kind(3));
    refused(n, "kind(-1)", -2, x -> x.kind(-1));
    refused(n, "feed(128)", -2, x -> x.feed(128));
    refused(n, "feed(-1)", -2, x -> x.feed(-1));
    refused(n, "step(3, 50)", -2, x -> x.step(3, 50));
    refused(n, "step(-1, 50)", -2, x -> x.step(-1, 50));
    refused(n, "step(0, 51)", -2, x -> x.step(0, 51));
    refused(n, "step(2, -1)", -2, x -> x.step(2, -1));
  }

  private static void asksRefused(int n) {
    refused(n, "game(0, 0, 2)", -1, x -> x.game(0, 0, 2));
    refused(n, "of(0, 0, 4)", -1, x -> x.of(0, 0, 4));
    refused(n, "season(0, 0, 2)", -1, x -> x.season(0, 0, 2));
    refused(n, "when(1, 1)", -1, x -> x.when(1, 1));
    refused(n, "about(0, 7)", -1, x -> x.about(0, 7));
    refused(n, "carried(1, 1)", -1, x -> x.carried(1, 1));
    refused(n, "loop(1, 1, 0)", -1, x -> x.loop(1, 1, 0));
    refused(n, "told(10)", -1, x -> x.told(10));
    refused(n, "rateOf(4)", -1, x -> x.rateOf(4));
    refused(n, "wear(n, 0)", Made.NO, x -> x.wear(n, 0));
    refused(n, "would(0, n / 2)", Made.NO, x -> x.would(0, n / 2));
    refused(n, "would(n - 1, 0)", Made.NO, x -> x.would(n - 1, 0));
    refused(n, "spread(2)", Made.NO, x -> x.spread(2));
    refused(n, "odds(n, 0)", Made.NO, x -> x.odds(n, 0));
    refused(n, "mean(2)", Made.NO, x -> x.mean(2));
    refused(n, "after(3)", Made.NO, x -> x.after(3));
    refused(n, "count(4)", -2, x -> x.count(4));
  }

  private static void rowsRefused(int n) {
    refused(n, "see(n, 0, true)", -1, x -> x.see(n, 0, true));
    refused(n, "see(-2, 0, true)", -1, x -> x.see(-2, 0, true));
    refused(n, "see(0, 10, true)", -2, x -> x.see(0, 10, true));
    refused(n, "see(0, -1, true)", -2, x -> x.see(0, -1, true));
    refused(n, "event(4, 0)", -1, x -> x.event(4, 0));
    refused(n, "event(-2, 0)", -1, x -> x.event(-2, 0));
    refused(n, "event(0, -1)", -1, x -> x.event(0, -1));
    refused(n, "event(0, 10 (n - 1))", -1, x -> x.event(0, 10 * (n - 1)));
    refused(n, "event(1, n / 2)", -1, x -> x.event(1, n / 2));
    refused(n, "event(2, n)", -1, x -> x.event(2, n));
    refused(n, "event(3, 40)", -1, x -> x.event(3, 40));
    refused(n, "book(n, 0)", -1, x -> x.book(n, 0));
    refused(n, "book(-2, 0)", -1, x -> x.book(-2, 0));
    refused(n, "book(0, 5)", -2, x -> x.book(0, 5));
    refused(n, "book(0, -1)", -2, x -> x.book(0, -1));
  }

  private static void tapesRefused(int n) {
    refused(n, "judge(n, 2, 0)", -1, x -> x.judge(n, 2, 0));
    refused(n, "judge(0, 6, 0)", -1, x -> x.judge(0, 6, 0));
    refused(n, "judge(0, 0, 0)", -12, x -> x.judge(0, 0, 0));
    refused(n, "tape(6, 0, 1)", -1, x -> x.tape(6, 0, 1));
    refused(n, "tape(2, 5, 1)", -2, x -> x.tape(2, 5, 1));
    refused(n, "tape(2, -2, 1)", -2, x -> x.tape(2, -2, 1));
    refused(n, "tape(2, 2, 61)", -2, x -> x.tape(2, 2, 61));
    refused(n, "tape(2, 2, -1)", -14, x -> x.tape(2, 2, -1));
    refused(n, "item(6, 0, 1)", -1, x -> x.item(6, 0, 1));
    refused(n, "item(5, 0, 1)", -11, x -> x.item(5, 0, 1));
    refused(n, "item(1, 5, 1)", -13, x -> x.item(1, 5, 1));
    refused(n, "item(1, -1, 1)", -13, x -> x.item(1, -1, 1));
    refused(n, "peek(6, 0)", Made.NO, x -> x.peek(6, 0));
    refused(n, "peek(5, 0)", Made.NO, x -> x.peek(5, 0));
    refused(n, "peek(1, 5)", Made.NO, x -> x.peek(1, 5));
    refused(n, "shift(6, 0, 0, 0, 1)", -1, x -> x.shift(6, 0, 0, 0, 1));
    refused(n, "shift(2, 0, -1, 0, 1)", -1, x -> x.shift(2, 0, -1, 0, 1));
    refused(n, "shift(5, 0, 2, 0, 1)", -11, x -> x.shift(5, 0, 2, 0, 1));
    refused(n, "shift(2, 0, 5, 0, 1)", -11, x -> x.shift(2, 0, 5, 0, 1));
    refused(n, "shift(2, 1, 3, 0, 1)", -12, x -> x.shift(2, 1, 3, 0, 1));
    refused(n, "shift(2, 0, 2, 1, 6)", -13, x -> x.shift(2, 0, 2, 1, 6));
    refused(n, "shift(2, 1, 2, 0, 6)", -13, x -> x.shift(2, 1, 2, 0, 6));
    refused(n, "shift(2, -1, 2, 0, 2)", -13, x -> x.shift(2, -1, 2, 0, 2));
    refused(n, "shift(2, 1, 2, -1, 2)", -13, x -> x.shift(2, 1, 2, -1, 2));
    refused(n, "shift(2, 1, 2, 3, -1)", -13, x -> x.shift(2, 1, 2, 3, -1));
  }

  /** Four TEAMS; no row more may come, no sign more. */
  private static HomeRounds crammed() {
    HomeRounds x = Made.four();
    for (int row = 0; row < 6; row++) {
      x.see(1, 3, true);
    }
    for (int row = 0; row < 7; row++) {
      x.event(1, 11);
      x.book(0, 0);
    }
    x.event(3, 9);
    x.book(1, 0);
    Made.feed(x, "rate 0 10;rate 1 50;rate 2 10;rate 3 10;rate 0 11;rate 1 51;rate 2 11;rate 3 11;"
        + "kind 1;kind 2;kind 0");
    return x;
  }

  private static void refusedAsFull(String call, long due, Call done) {
    Check.due(call, done.on(crammed()), due);
    same(call + " where all is full", NothingEdges::crammed, done);
  }

  private static void fullRefused() {
    Check.due("all is full", Look.counts(crammed()), "6 8 8 100");
    refusedAsFull("feed(59)", -4, x -> x.feed(59));
    refusedAsFull("see(0, 0, false)", -4, x -> x.see(0, 0, false));
    refusedAsFull("event(1, 0)", -4, x -> x.event(1, 0));
    refusedAsFull("book(0, 4)", -4, x -> x.book(0, 4));
    // The row that would have come can't be seen to have gone to another's place.
    refusedAsFull("see(4, 0, false)", -1, x -> x.see(4, 0, false));
    refusedAsFull("event(4, 0)", -1, x -> x.event(4, 0));
    refusedAsFull("book(4, 0)", -1, x -> x.book(4, 0));
  }

  private static void emptyRefused() {
    Check.due("undo() of none", Made.four().undo(), -3);
    same("undo() of none", HomeRounds::new, HomeRounds::undo);
    same("undo() of none", Made::six, HomeRounds::undo);
    Check.due("read() of nothing", Made.six().read(), -10);
    same("read() of nothing", Made::six, HomeRounds::read);
    same("a FAULT behind right clauses", Made::six, x -> Made.read(x, "teams 4;bar 0 0;kind"));
    same("all refused", Made::six, x -> Made.read(x, "teams 5;bar 0 5;kind 3;swap 0 5;turn 0 3"));
    same("no STEPS", () -> Made.apart(6), x -> x.step(0, 0) + x.step(1, 0) + x.step(2, 0));
  }
}
