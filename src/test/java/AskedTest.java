/** Promises 13 to 25: what is so, and the floats. */
public final class AskedTest {
  private static final int MIN = Integer.MIN_VALUE, MAX = Integer.MAX_VALUE;
  private static final long NO = Long.MIN_VALUE;

  public static void main(String[] args) {
    game();
    of();
    season();
    when();
    about();
    aboutMiles();
    carried();
    loop();
    told();
    rateOf();
    wear();
    cost();
    would();
    spread();
    Check.end("AskedTest");
  }

  private static HomeRounds six() {
    HomeRounds x = new HomeRounds();
    x.teams(6);
    return x;
  }

  /** Four TEAMS at 0 0, 10 0, 0 20, 5 5. */
  private static HomeRounds apart() {
    HomeRounds x = new HomeRounds();
    x.ground(1, 10, 0);
    x.ground(2, 0, 20);
    x.ground(3, 5, 5);
    return x;
  }

  private static void game() {
    HomeRounds x = new HomeRounds();
    Check.due("13 game(1, 0, 0)", x.game(1, 0, 0), 3);
    Check.due("13 game(1, 0, 1)", x.game(1, 0, 1), 1);
    for (int v : new int[] {MIN, -1, 3, MAX}) {
      Check.due("13 game(" + v + ", 0, 0)", x.game(v, 0, 0), -1);
      Check.due("13 game(0, " + v + ", 0)", x.game(0, v, 0), -1);
      Check.due("13 game(0, 0, " + v + ")", x.game(0, 0, v), -1);
    }
    Check.due("13 game(0, 2, 0)", x.game(0, 2, 0), -1);
    Check.due("13 game(0, 0, 2)", x.game(0, 0, 2), -1);
    Check.due("13 game(4, 2, 1) of six", six().game(4, 2, 1), 1);
    Check.due("13 game(5, 0, 0) of six", six().game(5, 0, 0), -1);
    Check.due("13 game(0, 3, 0) of six", six().game(0, 3, 0), -1);
  }

  private static void of() {
    HomeRounds x = six();
    int[] rivals = {3, 0, 5, 4, 1};
    int[] sides = {0, 1, 1, 0, 1};
    int[] games = {2, 1, 0, 1, 2};
    x.bar(2, 3);
    for (int r = 0; r < 5; r++) {
      Check.due("14 of(2, " + r + ", 0)", x.of(2, r, 0), rivals[r]);
      Check.due("14 of(2, " + r + ", 1)", x.of(2, r, 1), sides[r]);
      Check.due("14 of(2, " + r + ", 2)", x.of(2, r, 2), games[r]);
      Check.due("14 of(2, " + r + ", 3)", x.of(2, r, 3), r == 3 ? 1 : 0);
    }
    for (int v : new int[] {MIN, -1, 6, MAX}) {
      Check.due("14 of(" + v + ", 0, 0)", x.of(v, 0, 0), -1);
      Check.due("14 of(0, " + v + ", 0)", x.of(0, v, 0), -1);
      Check.due("14 of(0, 0, " + v + ")", x.of(0, 0, v), -1);
    }
    Check.due("14 of(0, 5, 0)", x.of(0, 5, 0), -1);
    Check.due("14 of(0, 0, 4)", x.of(0, 0, 4), -1);
    Check.due("14 of(4, 0, 0) of four", new HomeRounds().of(4, 0, 0), -1);
    Check.due("14 of(0, 3, 0) of four", new HomeRounds().of(0, 3, 0), -1);
  }

  private static void season() {
    // TEAM 1 of four: meets 2, 3, 0 and is HOME, AWAY, AWAY.
    int[][] rivals = {{2, 3, 0, 2, 3, 0}, {2, 3, 0, 0, 3, 2}, {2, 3, 0, 0, 2, 3}};
    int[][] sides = {{1, 0, 0, 0, 1, 1}, {1, 0, 0, 1, 1, 0}, {1, 0, 0, 1, 0, 1}};
    HomeRounds x = new HomeRounds();
    for (int kind = 0; kind < 3; kind++) {
      x.kind(kind);
      for (int r = 0; r < 6; r++) {
        String call = "15 season(1, " + r + ", .) by KIND " + kind;
        Check.due(call, x.season(1, r, 0), rivals[kind][r]);
        Check.due(call, x.season(1, r, 1), sides[kind][r]);
      }
      Check.due("15 season(1, 6, 0)", x.season(1, 6, 0), -1);
    }
    for (int v : new int[] {MIN, -1, 6, MAX}) {
      Check.due("15 season(" + v + ", 0, 0)", x.season(v, 0, 0), -1);
      Check.due("15 season(0, " + v + ", 0)", x.season(0, v, 0), -1);
      Check.due("15 season(0, 0, " + v + ")", x.season(0, 0, v), -1);
    }
    Check.due("15 season(4, 0, 0)", x.season(4, 0, 0), -1);
    Check.due("15 season(0, 0, 2)", x.season(0, 0, 2), -1);
    Check.due("15 season(5, 9, 0) of six", six().season(5, 9, 0), 4);
    Check.due("15 season(5, 9, 1) of six", six().season(5, 9, 1), 1);
    Check.due("15 season(5, 10, 0) of six", six().season(5, 10, 0), -1);
  }

  private static void when() {
    HomeRounds x = six();
    Check.due("16 when(0, 4)", x.when(0, 4), 2);
    Check.due("16 when(4, 0)", x.when(4, 0), 2);
    Check.due("16 when(5, 4)", x.when(5, 4), 4);
    Check.due("16 when(3, 2)", x.when(3, 2), 0);
    Check.due("16 when(3, 3)", x.when(3, 3), -1);
    for (int v : new int[] {MIN, -1, 6, MAX}) {
      Check.due("16 when(" + v + ", 0)", x.when(v, 0), -1);
      Check.due("16 when(0, " + v + ")", x.when(0, v), -1);
    }
    Check.due("16 when(4, 4) of four", new HomeRounds().when(4, 4), -1);
  }

  private static void about() {
    HomeRounds x = new HomeRounds();
    int[] patterns = {5, 1, 6, 2};
    int[] breaks = {0, 1, 1, 0};
    int[] others = {3, 2, 1, 0};
    int[][] seasons = {{0, 3, 3, 0}, {0, 2, 2, 0}, {1, 1, 1, 1}};
    for (int i = 0; i < 4; i++) {
      Check.due("17 about(" + i + ", 0)", x.about(i, 0), patterns[i]);
      Check.due("17 about(" + i + ", 1)", x.about(i, 1), breaks[i]);
      Check.due("17 about(" + i + ", 2)", x.about(i, 2), others[i]);
      for (int kind = 0; kind < 3; kind++) {
        x.kind(kind);
        Check.due("17 about(" + i + ", 6) by KIND " + kind, x.about(i, 6), seasons[kind][i]);
      }
    }
    x.turn(0, 0);
    // Patterns are 4, 1, 6, 3: none is 4 the other way about but 3.
    Check.due("17 OTHER of 0", x.about(0, 2), 3);
    x.turn(1, 1);
    // 6, 1, 4, 3.
    Check.due("17 OTHER of 1", x.about(1, 2), 0);
    x.turn(2, 1);
    // 2, 5, 4, 3.
    Check.due("17 OTHER of 2", x.about(2, 2), 3);
    x.turn(0, 1);
    // 2, 4, 5, 3: 4 is the other way about to 3.
    Check.due("17 OTHER of 3", x.about(3, 2), 1);
    x.turn(1, 0);
    // 2, 6, 5, 1: of 0 it is 2, of 1 it is 3.
    Check.due("17 OTHER of 1 then", x.about(1, 2), 3);
    Check.due("17 no OTHER", alone().about(0, 2), -5);
    for (int v : new int[] {MIN, -1, 7, MAX}) {
      Check.due("17 about(" + v + ", 0)", x.about(v, 0), -1);
      Check.due("17 about(0, " + v + ")", x.about(0, v), -1);
    }
    Check.due("17 about(4, 4)", x.about(4, 4), -1);
  }

  /** TEAM 0 is HOME always, and none is AWAY always. */
  private static HomeRounds alone() {
    HomeRounds x = new HomeRounds();
    x.turn(1, 1);
    return x;
  }

  private static void aboutMiles() {
    HomeRounds x = apart();
    // 0: home, at 2, home; 1: home, at 3, at 0; 2: at 1, home, home; 3: at 0, home, at 2.
    int[] miles = {20 + 20, 10 + 10 + 10, 30 + 30, 10 + 10 + 20 + 20};
    for (int i = 0; i < 4; i++) {
      Check.due("17 about(" + i + ", 3)", x.about(i, 3), miles[i]);
    }
    Check.due("17 about(2, 4)", x.about(2, 4), 0);
    Check.due("17 about(2, 5)", x.about(2, 5), 20);
    Check.due("17 about(1, 4)", x.about(1, 4), 10);
    Check.due("17 about(1, 5)", x.about(1, 5), 0);
    Check.due("20 told(4)", x.told(4), miles[0] + miles[1] + miles[2] + miles[3]);
  }

  private static void carried() {
    HomeRounds x = new HomeRounds();
    // ROUND 0: 0 meets 3, who meets 1 then; 1 - 2 - 0; 2 - 1 - 3; 3 - 0 - 2.
    // ROUND 1: 3 - 1 - 0; 1 - 3 - 2; 2 - 0 - 1; 0 - 2 - 3.
    int[][] due = {{-1, 1, 0, 1}, {1, -1, 1, 0}, {0, 1, -1, 1}, {1, 0, 1, -1}};
    for (int i = 0; i < 4; i++) {
      for (int j = 0; j < 4; j++) {
        Check.due("18 carried(" + i + ", " + j + ")", x.carried(i, j), due[i][j]);
      }
    }
    for (int v : new int[] {MIN, -1, 4, MAX}) {
      Check.due("18 carried(" + v + ", 0)", x.carried(v, 0), -1);
      Check.due("18 carried(0, " + v + ")", x.carried(0, v), -1);
    }
    // Six by THE CIRCLE: 0 meets 5, 2, 4, 1; they meet 1, 5, 2, 2 then.
    int[] six = {-1, 1, 2, 0, 0, 1};
    for (int j = 0; j < 6; j++) {
      Check.due("18 carried(0, " + j + ") of six", six().carried(0, j), six[j]);
    }
  }

  private static void loop() {
    HomeRounds x = new HomeRounds();
    Check.due("19 loop(0, 1, 0)", x.loop(0, 1, 0), 4);
    Check.due("19 loop(2, 0, 3)", x.loop(2, 0, 3), 4);
    for (int r = 0; r < 5; r++) {
      for (int s = 0; s < 5; s++) {
        Check.due("19 loop(" + r + ", " + s + ", 5) of six", six().loop(r, s, 5), r == s ? -1 : 6);
      }
    }
    for (int v : new int[] {MIN, -1, 3, MAX}) {
      Check.due("19 loop(" + v + ", 0, 0)", x.loop(v, 0, 0), -1);
      Check.due("19 loop(0, " + v + ", 0)", x.loop(0, v, 0), -1);
    }
    for (int v : new int[] {MIN, -1, 4, MAX}) {
      Check.due("19 loop(0, 1, " + v + ")", x.loop(0, 1, v), -1);
    }
    Check.due("19 loop(1, 1, 0)", x.loop(1, 1, 0), -1);
  }

  private static void told() {
    HomeRounds x = new HomeRounds();
    int[] due = {4, 2, 0, 8, 0, 0, 0, 0, 6, 0};
    for (int what = 0; what < 10; what++) {
      Check.due("20 told(" + what + ")", x.told(what), due[what]);
    }
    for (int v : new int[] {MIN, -1, 10, MAX}) {
      Check.due("20 told(" + v + ")", x.told(v), -1);
    }
    x.bar(0, 0);
    x.bar(0, 1);
    x.bar(1, 0);
    x.bar(2, 0);
    Check.due("20 VIOLATED: 0 and 1 in ROUND 0", x.told(2), 2);
    Check.due("20 BARS", x.told(6), 4);
    x.turn(0, 1);
    Check.due("20 VIOLATED: 0 and 2 in ROUND 0", x.told(2), 2);
    x.turn(0, 0);
    Check.due("20 VIOLATED: 2 in ROUND 0", x.told(2), 1);
    // Patterns 4, 0, 7, 3: BREAKS 1, 2, 2, 1.
    Check.due("20 all BREAKS", x.told(1), 6);
    Check.due("20 above the least", x.told(9), 4);
    x.kind(1);
    Check.due("20 KIND", x.told(7), 1);
    // BACK: each BREAK twice, none where the halves meet.
    Check.due("20 BREAKS in THE SEASON, BACK", x.told(8), 12);
    x.kind(0);
    // AGAIN: where the halves meet, 0 and 3 begin as they don't end: a BREAK each.
    Check.due("20 BREAKS in THE SEASON, AGAIN", x.told(8), 14);
    Check.due("20 of six", six().told(1), 4);
    Check.due("20 CARRY of six", six().told(3), 42);
    Check.due("20 above the least of six", six().told(9), 0);
    x.bar(3, 2);
    Check.due("20 not VIOLATED: 3 is AWAY in the last ROUND", x.told(2), 1);
    x.bar(2, 2);
    Check.due("20 VIOLATED in the last ROUND", x.told(2), 2);
    HomeRounds y = apart();
    // WAYS of 2 are 30, 30, 0, of 3 they are 10, 10, 20: 13.1 and 11.0.
    Check.due("20 MOST WORN", y.told(5), 2);
    y.swap(0, 2);
    // Then 2 has 0, 0, 30, and 3 has 20, 20, 10: 10 and 11.0; 1 has 10, 10, 10: 7.7.
    Check.due("20 MOST WORN then", y.told(5), 3);
    for (int i = 0; i < 4; i++) {
      HomeRounds z = new HomeRounds();
      z.ground(i, 50, 50);
      int most = 0;
      for (int k = 1; k < 4; k++) {
        most = z.wear(k, 2) > z.wear(most, 2) ? k : most;
      }
      Check.due("20 MOST WORN with " + i + " far off", z.told(5), most);
    }
    HomeRounds two = new HomeRounds();
    two.ground(2, 0, 9);
    // WAYS of 0 are 0, 9, 9, of 1 none, of 2 they are 9, 9, 0, of 3 they are 0, 0, 9.
    Check.due("20 MOST WORN is 0", two.told(5), 0);
  }

  private static void rateOf() {
    HomeRounds x = new HomeRounds();
    Check.due("21 rateOf(0)", x.rateOf(0), 10);
    Check.due("21 rateOf(1)", x.rateOf(1), 50);
    Check.due("21 rateOf(2)", x.rateOf(2), 1);
    Check.due("21 rateOf(3)", x.rateOf(3), 0);
    for (int v : new int[] {MIN, -1, 4, MAX}) {
      Check.due("21 rateOf(" + v + ")", x.rateOf(v), -1);
    }
  }

  private static void dueBits(String call, long got, float want) {
    Check.due(call, got, Float.floatToIntBits(want));
  }

  private static void wear() {
    HomeRounds x = apart();
    float first = 10.0f / 3.0f;
    float second = first * 0.75f + 10.0f / 3.0f;
    dueBits("22 wear(3, 0)", x.wear(3, 0), first);
    dueBits("22 wear(3, 1)", x.wear(3, 1), second);
    dueBits("22 wear(3, 2)", x.wear(3, 2), second * 0.75f + 20.0f / 3.0f);
    dueBits("22 wear(0, 0)", x.wear(0, 0), 0.0f);
    dueBits("22 wear(0, 1)", x.wear(0, 1), 20.0f / 3.0f);
    // From one that isn't its own to another: 3's GROUND to 0's.
    dueBits("22 wear(1, 2)", x.wear(1, 2), 10.0f / 3.0f * 0.75f + 10.0f / 3.0f);
    for (int y = 0; y < 100; y++) {
      HomeRounds far = new HomeRounds();
      far.ground(3, 0, y);
      float once = (float) y / 3.0f;
      float twice = once * 0.75f + (float) y / 3.0f;
      dueBits("22 wear(3, 0), " + y + " far", far.wear(3, 0), once);
      dueBits("22 wear(3, 1), " + y + " far", far.wear(3, 1), twice);
      dueBits("22 wear(3, 2), " + y + " far", far.wear(3, 2), twice * 0.75f + (float) y / 3.0f);
    }
    for (int v : new int[] {MIN, -1, 4, MAX}) {
      Check.due("22 wear(" + v + ", 0)", x.wear(v, 0), NO);
      Check.due("22 wear(0, " + v + ")", x.wear(0, v), NO);
    }
    Check.due("22 wear(0, 3)", x.wear(0, 3), NO);
  }

  private static void cost() {
    HomeRounds x = apart();
    dueBits("23 cost()", x.cost(), 10 / 10.0f * 2.0f + 1 / 10.0f * 8.0f);
    x.rate(0, 7);
    x.rate(1, 33);
    x.rate(2, 9);
    x.rate(3, 99);
    x.bar(0, 0);
    x.bar(2, 1);
    x.bar(1, 0);
    float sum = 7.0f / 10.0f * 2.0f + 33.0f / 10.0f * 3.0f;
    sum = sum + 9.0f / 10.0f * 8.0f;
    sum = sum + 99.0f / 10.0f * (float) x.told(4);
    dueBits("23 cost() by all RATES", x.cost(), sum);
    for (int k = 0; k < 4; k++) {
      x.rate(k, 0);
    }
    Check.due("23 cost() of nothing", x.cost(), 0);
  }

  private static void would() {
    HomeRounds x = apart();
    x.rate(3, 3);
    x.bar(2, 0);
    for (int r = 0; r < 3; r++) {
      for (int k = 0; k < 2; k++) {
        long was = x.cost();
        long said = x.would(r, k);
        Check.due("24 nothing changes", x.cost(), was);
        x.turn(r, k);
        Check.due("24 would(" + r + ", " + k + ")", said, x.cost());
        x.turn(r, k);
      }
    }
    dueBits("24 would(0, 0)", new HomeRounds().would(0, 0), 1.0f * 4.0f + 1 / 10.0f * 8.0f);
    for (int v : new int[] {MIN, -1, 3, MAX}) {
      Check.due("24 would(" + v + ", 0)", x.would(v, 0), NO);
      Check.due("24 would(0, " + v + ")", x.would(0, v), NO);
    }
    Check.due("24 would(0, 2)", x.would(0, 2), NO);
    Check.due("24 would(4, 2) of six", six().would(4, 2) >= 0);
  }

  private static void spread() {
    boolean isHigh = false;
    for (int y = 0; y < 60; y++) {
      HomeRounds x = new HomeRounds();
      x.ground(0, y % 7, 0);
      x.ground(3, 0, y);
      long bits = spreadOf(x);
      Check.due("25 spread(0), 3 at 0 " + y, x.spread(0), bits >>> 32);
      Check.due("25 spread(1), 3 at 0 " + y, x.spread(1), bits & 0xFFFFFFFFL);
      isHigh |= x.spread(1) > MAX;
    }
    Check.due("25 there was one with the highest of the lower 32", isHigh);
    HomeRounds x = apart();
    Check.due("25 spread(0)", x.spread(0), spreadOf(x) >>> 32);
    for (int v : new int[] {MIN, -1, 2, MAX}) {
      Check.due("25 spread(" + v + ")", x.spread(v), NO);
    }
    Check.due("25 spread(0) where none is worn", new HomeRounds().spread(0), 0);
    Check.due("25 spread(1) where none is worn", new HomeRounds().spread(1), 0);
  }

  private static long spreadOf(HomeRounds x) {
    double[] wears = new double[4];
    double mean = 0.0;
    for (int i = 0; i < 4; i++) {
      wears[i] = Float.intBitsToFloat((int) x.wear(i, 2));
      mean = mean + wears[i];
    }
    mean = mean / 4;
    double sum = 0.0;
    for (int i = 0; i < 4; i++) {
      sum = sum + (wears[i] - mean) * (wears[i] - mean);
    }
    return Double.doubleToLongBits(sum / 4);
  }
}
