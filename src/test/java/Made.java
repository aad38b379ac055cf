/** Objects that the tests begin with, and calls that many of them share. */
final class Made {
  static final int MIN = Integer.MIN_VALUE, MAX = Integer.MAX_VALUE;
  static final long NO = Long.MIN_VALUE;
  static final String CIRCLE_4 = "0-3 1-2 / 3-1 2-0 / 2-3 0-1";
  static final String CIRCLE_6 = "0-5 1-4 3-2 / 5-1 2-0 4-3 / 2-5 3-1 0-4 / 5-3 4-2 1-0 / "
      + "4-5 0-3 2-1";
  static final int[] BOTH = {4, 6};

  private Made() {}

  static HomeRounds of(int n) {
    HomeRounds x = new HomeRounds();
    x.teams(n);
    return x;
  }

  static HomeRounds four() {
    return new HomeRounds();
  }

  static HomeRounds six() {
    return of(6);
  }

  /** Four or six TEAMS, no two at the same GROUND. */
  static HomeRounds apart(int n) {
    HomeRounds x = of(n);
    for (int i = 0; i < n; i++) {
      x.ground(i, 17 * i, 40 + i * i);
    }
    return x;
  }

  /** What costs is what is VIOLATED, 5.0f each. */
  static HomeRounds barsCost(int n) {
    HomeRounds x = of(n);
    x.rate(0, 0);
    x.rate(2, 0);
    return x;
  }

  /** Something of all that can be told; THE IMAGE is of a little less. */
  static HomeRounds full(int n) {
    HomeRounds x = apart(n);
    x.turn(1, 1);
    x.swap(0, 2);
    x.bar(2, 1);
    x.bar(1, 2);
    x.rate(3, 7);
    x.kind(1);
    x.see(1, 3, true);
    x.event(1, 11);
    x.book(1, 3);
    x.image();
    x.bar(0, 0);
    x.event(3, 9);
    x.book(0, 2);
    x.kind(2);
    feed(x, "kind 1;turn 0 1");
    x.tape(0, 0, 6);
    x.tape(1, 1, 5);
    x.tape(2, 2, 6);
    x.tape(3, 3, 4);
    x.tape(4, 4, 6);
    for (int tape = 0; tape < 5; tape++) {
      for (int i = 0; i < 4; i++) {
        x.item(tape, i, 100 * i * tape + i);
      }
    }
    return x;
  }

  static void feed(HomeRounds x, String text) {
    for (int i = 0; i < text.length(); i++) {
      x.feed(text.charAt(i));
    }
  }

  static int read(HomeRounds x, String text) {
    feed(x, text);
    return x.read();
  }

  static float floatOf(long bits) {
    return Float.intBitsToFloat((int) bits);
  }

  /** SPREAD as it is answered. */
  static double spreadOf(HomeRounds x) {
    return Double.longBitsToDouble(x.spread(0) << 32 | x.spread(1));
  }

  /** SPREAD as it must be by WEAR. */
  static double spreadByWear(HomeRounds x) {
    int n = x.told(0);
    double mean = 0.0;
    for (int i = 0; i < n; i++) {
      mean = mean + (double) floatOf(x.wear(i, n - 2));
    }
    mean = mean / (double) n;
    double sum = 0.0;
    for (int i = 0; i < n; i++) {
      double off = (double) floatOf(x.wear(i, n - 2)) - mean;
      sum = sum + off * off;
    }
    return sum / (double) n;
  }
}
