import java.util.Random;

/** Long runs of calls, right and wrong ones, by a fixed seed: the program against the Model. */
public final class ModelTest {
  private static final int RUNS = 1500;
  private static final int CALLS = 512;
  private static final int[] ODD = {
    Integer.MIN_VALUE, Integer.MAX_VALUE, -100, -2, 10, 50, 51, 60, 61, 99, 100, 127, 128, 1 << 20,
    Integer.MAX_VALUE - 3
  };
  private static final String[] PIECES = {
    "teams 4", "teams 6", "teams 5", "swap 0 2", "swap 1 4", "turn 2 1", "turn 0 2", "swop 0 3",
    "swop 5 1", "bar 1 1", "bar 2 2", "rate 3 7", "rate 0 99", "rate 9 1", "kind 1", "kind 2",
    "kind 3", "at 0 10 20", "at 3 9 99", "at 5 99 0", "at 8 1 1"
  };

  private final Random random;
  private final HomeRounds x = new HomeRounds();
  private final Model m = new Model();
  private StringBuilder said = new StringBuilder();

  private ModelTest(int seed) {
    random = new Random(seed);
  }

  public static void main(String[] args) {
    for (int run = 0; run < RUNS; run++) {
      new ModelTest(run).run(run);
    }
    Check.end("ModelTest");
  }

  private void run(int run) {
    if (random.nextInt(3) > 0) {
      pair("teams", x.teams(6), m.teams(6));
    }
    for (int i = 0; i < 6; i++) {
      int a = random.nextInt(100);
      int b = random.nextInt(100);
      if (random.nextInt(4) > 0) {
        pair("ground", x.ground(i, a, b), m.ground(i, a, b));
      }
    }
    for (int call = 0; call < CALLS && said != null; call++) {
      if (random.nextInt(25) == 0) {
        feedPieces();
      }
      oneCall(random.nextInt(48), near(), near(), near());
    }
  }

  private void pair(String name, long got, long want, int... args) {
    if (said == null) {
      return;
    }
    StringBuilder call = new StringBuilder(name);
    for (int a : args) {
      call.append(' ').append(a);
    }
    said.append(call).append("; ");
    Check.due(call.toString(), got, want);
    if (got != want) {
      System.out.println("  behind: " + said);
      said = null;
    }
  }

  /** An argument: mostly such as there may be, at times one that can't be. */
  private int near() {
    int kind = random.nextInt(40);
    if (kind == 0) {
      return ODD[random.nextInt(ODD.length)];
    }
    return kind < 3 ? random.nextInt(12) - 2 : kind < 12 ? random.nextInt(6) : random.nextInt(4);
  }

  private void feedPieces() {
    StringBuilder text = new StringBuilder();
    int pieces = random.nextInt(40) == 0 ? 13 : 1 + random.nextInt(5);
    for (int i = 0; i < pieces; i++) {
      text.append(i == 0 ? "" : ";");
      text.append(pieces > 6 ? "kind 1" : PIECES[random.nextInt(PIECES.length)]);
    }
    if (random.nextInt(2) == 0) {
      spoil(text);
    }
    for (int i = 0; i < text.length(); i++) {
      int sign = text.charAt(i);
      pair("feed", x.feed(sign), m.feed(sign), sign);
    }
  }

  private void spoil(StringBuilder text) {
    int place = random.nextInt(text.length() + 1);
    String signs = "ab 0159;x{`/:";
    char sign = signs.charAt(random.nextInt(signs.length()));
    switch (random.nextInt(4)) {
      case 0 -> text.setLength(place);
      case 1 -> text.insert(place, sign);
      case 2 -> text.append(';');
      default -> text.setCharAt(Math.min(place, text.length() - 1), sign);
    }
  }

  private void oneCall(int which, int a, int b, int c) {
    int v = random.nextInt(5) == 0 ? near() : random.nextInt(100);
    int u = random.nextInt(5) == 0 ? near() : random.nextInt(100);
    int i = random.nextInt(8) == 0 ? near() : random.nextInt(12);
    switch (which) {
      case 0:
        int n = random.nextInt(6) == 0 ? a : random.nextInt(8) > 0 ? 6 : 4;
        if (random.nextInt(6) == 0) {
          pair("teams", x.teams(n), m.teams(n), n);
        }
        break;
      case 1: pair("ground", x.ground(a, v, u), m.ground(a, v, u), a, v, u); break;
      case 2: pair("swap", x.swap(a, b), m.swap(a, b), a, b); break;
      case 3: pair("turn", x.turn(a, b), m.turn(a, b), a, b); break;
      case 4: pair("exchange", x.exchange(a, b), m.exchange(a, b), a, b); break;
      case 5: case 42: pair("bar", x.bar(a, b), m.bar(a, b), a, b); break;
      case 6: pair("rate", x.rate(a, v), m.rate(a, v), a, v); break;
      case 7: pair("kind", x.kind(a), m.kind(a), a); break;
      case 8: pair("feed", x.feed(v), m.feed(v), v); break;
      case 9: case 43: pair("read", x.read(), m.read()); break;
      case 10:
        int most = random.nextInt(4) == 0 ? v : 1 + random.nextInt(3);
        if (random.nextInt(3) == 0) {
          pair("step", x.step(a, most), m.step(a, most), a, most);
        }
        break;
      case 11: pair("game", x.game(a, b, c), m.game(a, b, c), a, b, c); break;
      case 12: pair("of", x.of(a, b, c), m.of(a, b, c), a, b, c); break;
      case 13: pair("season", x.season(a, i, c), m.season(a, i, c), a, i, c); break;
      case 14: pair("when", x.when(a, b), m.when(a, b), a, b); break;
      case 15: case 44: pair("about", x.about(a, i), m.about(a, i), a, i); break;
      case 16: pair("carried", x.carried(a, b), m.carried(a, b), a, b); break;
      case 17: pair("loop", x.loop(a, b, c), m.loop(a, b, c), a, b, c); break;
      case 18: case 45: pair("told", x.told(i), m.told(i), i); break;
      case 19: pair("rateOf", x.rateOf(a), m.rateOf(a), a); break;
      case 20: pair("wear", x.wear(a, b), m.wear(a, b), a, b); break;
      case 21: case 46: pair("cost", x.cost(), m.cost()); break;
      case 22: pair("would", x.would(a, b), m.would(a, b), a, b); break;
      case 23: pair("spread", x.spread(a), m.spread(a), a); break;
      case 24:
        boolean is = random.nextBoolean();
        int team = a == -1 || random.nextInt(8) == 0 ? -1 : a;
        pair("see", x.see(team, i, is), m.see(team, i, is), team, i, is ? 1 : 0);
        break;
      case 25: pair("fits", x.fits(), m.fits()); break;
      default: otherCall(which, a, b, i, v); break;
    }
  }

  private void otherCall(int which, int a, int b, int i, int v) {
    int t = random.nextInt(10) == 0 ? near() : random.nextInt(2);
    int n = random.nextInt(10) == 0 ? near() : random.nextInt(9);
    long value = random.nextInt(3) == 0 ? near() : random.nextLong() >> random.nextInt(64);
    switch (which) {
      case 26: pair("odds", x.odds(a, b), m.odds(a, b), a, b); break;
      case 27: pair("mean", x.mean(a), m.mean(a), a); break;
      case 28: case 47:
        int what = random.nextInt(12) == 0 ? -1 : a;
        pair("event", x.event(what, v), m.event(what, v), what, v);
        break;
      case 29: pair("after", x.after(a), m.after(a), a); break;
      case 30:
        int team = random.nextInt(8) == 0 ? -1 : a;
        pair("book", x.book(team, b), m.book(team, b), team, b);
        break;
      case 31: pair("looked", x.looked(), m.looked()); break;
      case 32:
        writeWear(a, t, n);
        pair("judge", x.judge(a, t, n), m.judge(a, t, n), a, t, n);
        break;
      case 33: pair("judge", x.judge(a, t, i), m.judge(a, t, i), a, t, i); break;
      case 34:
        if (random.nextInt(4) == 0) {
          pair("image", x.image(), m.image());
        }
        break;
      case 35:
        if (random.nextInt(4) == 0) {
          pair("undo", x.undo(), m.undo());
        }
        break;
      case 36: pair("count", x.count(a), m.count(a), a); break;
      case 37:
        int sort = random.nextInt(3) == 0 ? near() - 1 : 2;
        pair("tape", x.tape(t, sort, i), m.tape(t, sort, i), t, sort, i);
        break;
      case 38: case 39:
        pair("item " + value, x.item(t, n, value), m.item(t, n, value), t, n);
        break;
      case 40: pair("peek", x.peek(t, n), m.peek(t, n), t, n); break;
      default:
        int other = random.nextInt(10) == 0 ? near() : random.nextInt(2);
        pair("shift", x.shift(t, n, other, i, b), m.shift(t, n, other, i, b), t, n, other, i, b);
        break;
    }
  }

  /** Tells WEAR as it is, now and then but for one ROUND, so that judging goes beyond ROUND 0. */
  private void writeWear(int team, int tape, int place) {
    if (random.nextInt(2) == 0) {
      int n = 1 + random.nextInt(12);
      pair("tape", x.tape(tape, 2, n), m.tape(tape, 2, n), tape, 2, n);
    }
    int spoilt = random.nextInt(8);
    for (int r = 0; r < 5; r++) {
      long bits = m.wear(team, r) + (r == spoilt ? 1 : 0);
      pair("item " + bits, x.item(tape, place + r, bits), m.item(tape, place + r, bits), tape,
          place + r);
    }
  }
}
