import java.math.BigInteger;
import java.util.ArrayList;
import java.util.List;
import java.util.Map;
import java.util.regex.Matcher;
import java.util.regex.Pattern;

/**
 * The document told a second time, as plainly as the whole Java library allows and without a look
 * at how the program does it: ModelTest holds both against each other.
 */
final class Model {
  private static final Map<String, String> CLAUSES = Map.of(
      "teams", " [0-9]", "swap", " [0-9] [0-9]", "turn", " [0-9] [0-9]", "swop", " [0-9] [0-9]",
      "bar", " [0-9] [0-9]", "rate", " [0-9] [0-9]{1,2}", "kind", " [0-9]",
      "at", " [0-9] [0-9]{1,2} [0-9]{1,2}");

  /** What THE IMAGE holds; copied as a whole. */
  private static final class World {
    int n = 4;
    int kind = 0;
    List<List<int[]>> rounds = new ArrayList<>();
    int[][] grounds = new int[6][2];
    boolean[][] bars = new boolean[6][5];
    int[] rates = {10, 50, 1, 0};
    List<int[]> seen = new ArrayList<>();
    List<int[]> events = new ArrayList<>();
    List<int[]> book = new ArrayList<>();

    World copy() {
      World w = new World();
      w.n = n;
      w.kind = kind;
      for (List<int[]> round : rounds) {
        w.rounds.add(copies(round));
      }
      for (int i = 0; i < 6; i++) {
        w.grounds[i] = grounds[i].clone();
        w.bars[i] = bars[i].clone();
      }
      w.rates = rates.clone();
      w.seen = copies(seen);
      w.events = copies(events);
      w.book = copies(book);
      return w;
    }

    private static List<int[]> copies(List<int[]> rows) {
      List<int[]> all = new ArrayList<>();
      for (int[] row : rows) {
        all.add(row.clone());
      }
      return all;
    }
  }

  private World w = new World();
  private World kept = null;
  private String text = "";
  private final Object[] tapes = new Object[6];

  Model() {
    circle(4);
  }

  private void circle(int n) {
    w.n = n;
    w.rounds = new ArrayList<>();
    for (int r = 0; r <= n - 2; r++) {
      List<int[]> round = new ArrayList<>();
      round.add(r % 2 == 0 ? new int[] {r, n - 1} : new int[] {n - 1, r});
      for (int i = 1; i < n / 2; i++) {
        int a = Math.floorMod(r + i, n - 1);
        int b = Math.floorMod(r - i, n - 1);
        round.add(i % 2 == 1 ? new int[] {a, b} : new int[] {b, a});
      }
      w.rounds.add(round);
    }
  }

  private boolean in(int v, int from, int to) {
    return from <= v && v <= to;
  }

  private boolean team(int i) {
    return in(i, 0, w.n - 1);
  }

  private boolean round(int r) {
    return in(r, 0, w.n - 2);
  }

  private int[] gameWith(World v, int team, int r) {
    for (int[] g : v.rounds.get(r)) {
      if (g[0] == team || g[1] == team) {
        return g;
      }
    }
    throw new IllegalStateException("a team without a game");
  }

  private int rival(World v, int team, int r) {
    int[] g = gameWith(v, team, r);
    return g[0] == team ? g[1] : g[0];
  }

  private boolean home(World v, int team, int r) {
    return gameWith(v, team, r)[0] == team;
  }

  // ---- teams, rounds

  int teams(int n) {
    if (n != 4 && n != 6) {
      return -2;
    }
    int was = w.n;
    circle(n);
    w.bars = new boolean[6][5];
    w.seen.clear();
    w.events.clear();
    w.book.clear();
    return was;
  }

  int ground(int team, int x, int y) {
    if (!team(team)) {
      return -1;
    }
    if (!in(x, 0, 99) || !in(y, 0, 99)) {
      return -2;
    }
    int was = 100 * w.grounds[team][0] + w.grounds[team][1];
    w.grounds[team] = new int[] {x, y};
    return was;
  }

  private void swapIn(World v, int r, int s) {
    List<int[]> round = v.rounds.get(r);
    v.rounds.set(r, v.rounds.get(s));
    v.rounds.set(s, round);
  }

  private void turnIn(World v, int r, int k) {
    int[] g = v.rounds.get(r).get(k);
    v.rounds.get(r).set(k, new int[] {g[1], g[0]});
  }

  private void exchangeIn(World v, int i, int j) {
    for (List<int[]> round : v.rounds) {
      for (int[] g : round) {
        for (int side = 0; side < 2; side++) {
          g[side] = g[side] == i ? j : g[side] == j ? i : g[side];
        }
      }
    }
  }

  int swap(int r, int s) {
    if (!round(r) || !round(s)) {
      return -1;
    }
    swapIn(w, r, s);
    return allBreaks(w);
  }

  int turn(int r, int k) {
    if (!round(r) || !in(k, 0, w.n / 2 - 1)) {
      return -1;
    }
    turnIn(w, r, k);
    return w.rounds.get(r).get(k)[0];
  }

  int exchange(int i, int j) {
    if (!team(i) || !team(j)) {
      return -1;
    }
    exchangeIn(w, i, j);
    return i == j ? w.n - 1 : when(i, j);
  }

  int bar(int team, int r) {
    if (!team(team) || !round(r)) {
      return -1;
    }
    w.bars[team][r] = !w.bars[team][r];
    return w.bars[team][r] ? 1 : 0;
  }

  int rate(int k, int v) {
    if (!in(k, 0, 3)) {
      return -1;
    }
    if (!in(v, 0, 99)) {
      return -2;
    }
    int was = w.rates[k];
    w.rates[k] = v;
    return was;
  }

  int kind(int kind) {
    if (!in(kind, 0, 2)) {
      return -2;
    }
    int was = w.kind;
    w.kind = kind;
    return was;
  }

  int feed(int sign) {
    if (!in(sign, 0, 127)) {
      return -2;
    }
    if (text.length() == 100) {
      return -4;
    }
    text = text + (char) sign;
    return text.length();
  }

  int read() {
    String all = text;
    text = "";
    List<String> clauses = new ArrayList<>();
    int at = 0;
    while (true) {
      Matcher letters = Pattern.compile("[a-z]*").matcher(all.substring(at));
      letters.lookingAt();
      String numbers = CLAUSES.get(letters.group());
      if (numbers == null) {
        return -10 - at;
      }
      int from = at + letters.end();
      String ahead = clauses.size() == 11 ? "" : "(;[\\x00-\\x7f]*)?";
      Pattern rest = Pattern.compile(numbers + ahead, Pattern.DOTALL);
      for (int end = from; end <= all.length(); end++) {
        Matcher matcher = rest.matcher(all.substring(from, end));
        if (!matcher.matches() && !matcher.hitEnd()) {
          return -10 - (end - 1);
        }
      }
      Matcher whole = Pattern.compile(numbers).matcher(all.substring(from));
      if (!whole.lookingAt()) {
        return -10 - all.length();
      }
      clauses.add(letters.group() + whole.group());
      int behind = from + whole.end();
      if (behind == all.length()) {
        break;
      }
      at = behind + 1;
    }
    int done = 0;
    for (String clause : clauses) {
      if (clauseAnswer(clause.split(" ")) >= 0) {
        done++;
      }
    }
    return done;
  }

  private int clauseAnswer(String[] told) {
    int a = Integer.parseInt(told[1]);
    int b = told.length > 2 ? Integer.parseInt(told[2]) : 0;
    return switch (told[0]) {
      case "teams" -> teams(a);
      case "swap" -> swap(a, b);
      case "turn" -> turn(a, b);
      case "swop" -> exchange(a, b);
      case "bar" -> bar(a, b);
      case "rate" -> rate(a, b);
      case "kind" -> kind(a);
      default -> ground(a, b, Integer.parseInt(told[3]));
    };
  }

  int step(int manner, int n) {
    if (!in(manner, 0, 2) || !in(n, 0, 50)) {
      return -2;
    }
    int steps = 0;
    while (steps < n) {
      World best = null;
      for (World next : reached(manner)) {
        if (best == null || costOf(next) < costOf(best)) {
          best = next;
        }
      }
      if (best == null || !(costOf(best) < costOf(w))) {
        break;
      }
      w = best;
      steps++;
    }
    return steps;
  }

  private List<World> reached(int manner) {
    List<World> all = new ArrayList<>();
    int many = manner == 2 ? w.n : w.n - 1;
    for (int a = 0; a < many; a++) {
      for (int b = 0; b < (manner == 0 ? w.n / 2 : many); b++) {
        World next = w.copy();
        if (manner == 0) {
          turnIn(next, a, b);
        } else if (a >= b) {
          continue;
        } else if (manner == 1) {
          swapIn(next, a, b);
        } else {
          exchangeIn(next, a, b);
        }
        all.add(next);
      }
    }
    return all;
  }

  // ---- what is so

  int game(int r, int k, int what) {
    boolean is = round(r) && in(k, 0, w.n / 2 - 1) && in(what, 0, 1);
    return is ? w.rounds.get(r).get(k)[what] : -1;
  }

  int of(int team, int r, int what) {
    if (!team(team) || !round(r) || !in(what, 0, 3)) {
      return -1;
    }
    if (what == 0) {
      return rival(w, team, r);
    }
    if (what == 1) {
      return home(w, team, r) ? 1 : 0;
    }
    if (what == 2) {
      return w.rounds.get(r).indexOf(gameWith(w, team, r));
    }
    return w.bars[team][r] ? 1 : 0;
  }

  /** THE SEASON by a KIND: of every ROUND which one of the first half it is. */
  private List<Integer> seasonOf(int kind) {
    List<Integer> half = new ArrayList<>();
    for (int r = 0; r < w.n - 1; r++) {
      half.add(r);
    }
    List<Integer> all = new ArrayList<>(half);
    if (kind == 1) {
      java.util.Collections.reverse(half);
    }
    if (kind == 2) {
      java.util.Collections.rotate(half, 1);
    }
    all.addAll(half);
    return all;
  }

  private boolean seasonHome(int team, int r, int kind) {
    return home(w, team, seasonOf(kind).get(r)) != (r >= w.n - 1);
  }

  int season(int team, int r, int what) {
    if (!team(team) || !in(r, 0, 2 * (w.n - 1) - 1) || !in(what, 0, 1)) {
      return -1;
    }
    if (what == 0) {
      return rival(w, team, seasonOf(w.kind).get(r));
    }
    return seasonHome(team, r, w.kind) ? 1 : 0;
  }

  int when(int i, int j) {
    if (!team(i) || !team(j) || i == j) {
      return -1;
    }
    int r = 0;
    while (rival(w, i, r) != j) {
      r++;
    }
    return r;
  }

  private int breaks(World v, int team) {
    int sum = 0;
    for (int r = 1; r < v.n - 1; r++) {
      sum += home(v, team, r) == home(v, team, r - 1) ? 1 : 0;
    }
    return sum;
  }

  private int allBreaks(World v) {
    int sum = 0;
    for (int i = 0; i < v.n; i++) {
      sum += breaks(v, i);
    }
    return sum;
  }

  private int seasonBreaks(int team) {
    int sum = 0;
    for (int r = 1; r < 2 * (w.n - 1); r++) {
      sum += seasonHome(team, r, w.kind) == seasonHome(team, r - 1, w.kind) ? 1 : 0;
    }
    return sum;
  }

  private String pattern(int team) {
    StringBuilder all = new StringBuilder();
    for (int r = w.n - 2; r >= 0; r--) {
      all.append(home(w, team, r) ? '1' : '0');
    }
    return all.toString();
  }

  private int[] ways(World v, int team) {
    int[] ways = new int[v.n];
    int[] at = v.grounds[team];
    for (int r = 0; r < v.n; r++) {
      int[] next = v.grounds[r == v.n - 1 ? team : gameWith(v, team, r)[0]];
      ways[r] = Math.abs(at[0] - next[0]) + Math.abs(at[1] - next[1]);
      at = next;
    }
    return ways;
  }

  private int miles(World v, int team) {
    return java.util.stream.IntStream.of(ways(v, team)).sum();
  }

  private int allMiles(World v) {
    int sum = 0;
    for (int i = 0; i < v.n; i++) {
      sum += miles(v, i);
    }
    return sum;
  }

  int about(int team, int what) {
    if (!team(team) || !in(what, 0, 6)) {
      return -1;
    }
    switch (what) {
      case 0: return Integer.parseInt(pattern(team), 2);
      case 1: return breaks(w, team);
      case 2:
        String flipped = pattern(team).replace('0', '2').replace('1', '0').replace('2', '1');
        for (int i = 0; i < w.n; i++) {
          if (pattern(i).equals(flipped)) {
            return i;
          }
        }
        return -5;
      case 3: return miles(w, team);
      case 4: return w.grounds[team][0];
      case 5: return w.grounds[team][1];
      default: return seasonBreaks(team);
    }
  }

  private int carriedIn(World v, int i, int j) {
    int times = 0;
    for (int r = 0; r < v.n - 2; r++) {
      for (int k = 0; k < v.n; k++) {
        times += k != i && k != j && rival(v, i, r) == k && rival(v, k, r + 1) == j ? 1 : 0;
      }
    }
    return times;
  }

  int carried(int i, int j) {
    return team(i) && team(j) && i != j ? carriedIn(w, i, j) : -1;
  }

  private int carry(World v) {
    int sum = 0;
    for (int i = 0; i < v.n; i++) {
      for (int j = 0; j < v.n; j++) {
        sum += i == j ? 0 : carriedIn(v, i, j) * carriedIn(v, i, j);
      }
    }
    return sum;
  }

  int loop(int r, int s, int team) {
    if (!round(r) || !round(s) || r == s || !team(team)) {
      return -1;
    }
    java.util.Set<Integer> come = new java.util.HashSet<>(List.of(team));
    for (int i = 0; i < 10; i++) {
      for (int k : List.copyOf(come)) {
        come.add(rival(w, k, r));
        come.add(rival(w, k, s));
      }
    }
    return come.size();
  }

  private int violated(World v) {
    int sum = 0;
    for (int i = 0; i < v.n; i++) {
      for (int r = 0; r < v.n - 1; r++) {
        sum += v.bars[i][r] && home(v, i, r) ? 1 : 0;
      }
    }
    return sum;
  }

  int told(int what) {
    int sum = 0;
    switch (what) {
      case 0: return w.n;
      case 1: return allBreaks(w);
      case 2: return violated(w);
      case 3: return carry(w);
      case 4: return allMiles(w);
      case 5:
        int most = w.n - 1;
        for (int i = w.n - 1; i >= 0; i--) {
          most = wearOf(i, w.n - 2) >= wearOf(most, w.n - 2) ? i : most;
        }
        return most;
      case 6:
        for (boolean[] row : w.bars) {
          for (boolean b : row) {
            sum += b ? 1 : 0;
          }
        }
        return sum;
      case 7: return w.kind;
      case 8:
        for (int i = 0; i < w.n; i++) {
          sum += seasonBreaks(i);
        }
        return sum;
      case 9: return allBreaks(w) - w.n + 2;
      default: return -1;
    }
  }

  int rateOf(int k) {
    return in(k, 0, 3) ? w.rates[k] : -1;
  }

  // ---- floats

  private float wearOf(int team, int r) {
    return r < 0 ? 0.0f : wearOf(team, r - 1) * 0.75f + ((float) ways(w, team)[r]) / 3.0f;
  }

  private float costOf(World v) {
    float a = (((float) v.rates[0]) / 10.0f) * (float) allBreaks(v);
    float b = (((float) v.rates[1]) / 10.0f) * (float) violated(v);
    float c = (((float) v.rates[2]) / 10.0f) * (float) carry(v);
    float d = (((float) v.rates[3]) / 10.0f) * (float) allMiles(v);
    return ((a + b) + c) + d;
  }

  long wear(int team, int r) {
    return team(team) && round(r) ? Float.floatToIntBits(wearOf(team, r)) : Long.MIN_VALUE;
  }

  long cost() {
    return Float.floatToIntBits(costOf(w));
  }

  long would(int r, int k) {
    if (!round(r) || !in(k, 0, w.n / 2 - 1)) {
      return Long.MIN_VALUE;
    }
    World next = w.copy();
    turnIn(next, r, k);
    return Float.floatToIntBits(costOf(next));
  }

  long spread(int part) {
    if (!in(part, 0, 1)) {
      return Long.MIN_VALUE;
    }
    double mean = 0.0;
    for (int i = 0; i < w.n; i++) {
      mean += (double) wearOf(i, w.n - 2);
    }
    mean /= w.n;
    double sum = 0.0;
    for (int i = 0; i < w.n; i++) {
      sum += ((double) wearOf(i, w.n - 2) - mean) * ((double) wearOf(i, w.n - 2) - mean);
    }
    long bits = Double.doubleToLongBits(sum / w.n);
    return Integer.toUnsignedLong((int) (part == 0 ? bits >> 32 : bits));
  }

  // ---- seen, odds, events, books

  private int come(List<int[]> rows, int most, int... row) {
    if (rows.size() == most) {
      return -4;
    }
    rows.add(row);
    return rows.size();
  }

  int see(int team, int r, boolean isHome) {
    if (team == -1) {
      w.seen.clear();
      return 0;
    }
    if (!team(team)) {
      return -1;
    }
    return in(r, 0, 9) ? come(w.seen, 6, team, r, isHome ? 1 : 0) : -2;
  }

  int fits() {
    int bits = 0;
    for (int kind = 0; kind < 3; kind++) {
      boolean all = true;
      for (int[] row : w.seen) {
        all &= row[1] < 2 * (w.n - 1) && seasonHome(row[0], row[1], kind) == (row[2] == 1);
      }
      bits += all ? 1 << kind : 0;
    }
    return bits;
  }

  private long fraction(int a, int b, int part) {
    int d = BigInteger.valueOf(a).gcd(BigInteger.valueOf(b)).intValue();
    return part == 0 ? a / d : b / d;
  }

  long odds(int team, int part) {
    if (!team(team) || !in(part, 0, 1)) {
      return Long.MIN_VALUE;
    }
    return fraction(seasonBreaks(team), 2 * (w.n - 1) - 1, part);
  }

  long mean(int part) {
    return in(part, 0, 1) ? fraction(allBreaks(w), w.n, part) : Long.MIN_VALUE;
  }

  int event(int what, int n) {
    if (what == -1) {
      w.events.clear();
      return 0;
    }
    if (n < 0 || !in(what, 0, 3)) {
      return -1;
    }
    int a = n / 10;
    int b = n - 10 * a;
    boolean is = what == 0 ? round(a) && round(b)
        : what == 1 ? round(a) && b < w.n / 2
        : what == 2 ? team(a) && team(b) : a < 4;
    return is ? come(w.events, 8, what, a, b) : -1;
  }

  long after(int what) {
    if (!in(what, 0, 2)) {
      return Long.MIN_VALUE;
    }
    World next = w.copy();
    for (int[] row : w.events) {
      switch (row[0]) {
        case 0 -> swapIn(next, row[1], row[2]);
        case 1 -> turnIn(next, row[1], row[2]);
        case 2 -> exchangeIn(next, row[1], row[2]);
        default -> next.rates[row[1]] = row[2];
      }
    }
    return what == 0 ? allBreaks(next)
        : what == 1 ? violated(next) : Float.floatToIntBits(costOf(next));
  }

  int book(int team, int n) {
    if (team == -1) {
      w.book.clear();
      return 0;
    }
    if (!team(team)) {
      return -1;
    }
    return in(n, 0, 4) ? come(w.book, 8, team, n) : -2;
  }

  int looked() {
    for (int[] row : w.book) {
      if (breaks(w, row[0]) != row[1]) {
        return w.book.indexOf(row);
      }
    }
    return -5;
  }

  // ---- judging, the image, tapes: a TAPE is an array of its sort here

  int judge(int team, int tape, int i) {
    if (!team(team) || !in(tape, 0, 5)) {
      return -1;
    }
    if (tapes[tape] == null) {
      return 100;
    }
    if (!(tapes[tape] instanceof int[])) {
      return -12;
    }
    int[] row = (int[]) tapes[tape];
    for (int r = 0; r < w.n - 1; r++) {
      long place = (long) i + r;
      if (i < 0 || place >= row.length) {
        return 100 + r;
      }
      if (row[(int) place] != Float.floatToIntBits(wearOf(team, r))) {
        return r;
      }
    }
    return -5;
  }

  int image() {
    kept = w.copy();
    return w.n;
  }

  int undo() {
    if (kept == null) {
      return -3;
    }
    w = kept.copy();
    return w.n;
  }

  int count(int what) {
    return what == 0 ? w.seen.size() : what == 1 ? w.events.size() : what == 2 ? w.book.size()
        : what == 3 ? text.length() : -2;
  }

  int tape(int tape, int sort, int n) {
    if (!in(tape, 0, 5)) {
      return -1;
    }
    if (!in(sort, -1, 4)) {
      return -2;
    }
    if (sort == -1) {
      tapes[tape] = null;
      return 1;
    }
    if (n > 60) {
      return -2;
    }
    if (n < 0) {
      return -14;
    }
    tapes[tape] = sort == 0 ? new byte[n] : sort == 1 ? new short[n] : sort == 2 ? new int[n]
        : sort == 3 ? (Object) new long[n] : new boolean[n];
    return 1;
  }

  int item(int tape, int i, long v) {
    if (!in(tape, 0, 5)) {
      return -1;
    }
    Object row = tapes[tape];
    if (row == null) {
      return -11;
    }
    if (i < 0 || i >= java.lang.reflect.Array.getLength(row)) {
      return -13;
    }
    if (row instanceof byte[] b) {
      b[i] = (byte) v;
    } else if (row instanceof short[] s) {
      s[i] = (short) v;
    } else if (row instanceof int[] n) {
      n[i] = (int) v;
    } else if (row instanceof long[] l) {
      l[i] = v;
    } else if (row instanceof boolean[] f) {
      f[i] = v != 0;
    }
    return 1;
  }

  long peek(int tape, int i) {
    if (!in(tape, 0, 5) || tapes[tape] == null) {
      return Long.MIN_VALUE;
    }
    Object row = tapes[tape];
    if (i < 0 || i >= java.lang.reflect.Array.getLength(row)) {
      return Long.MIN_VALUE;
    }
    if (row instanceof boolean[] f) {
      return f[i] ? 1 : 0;
    }
    return java.lang.reflect.Array.getLong(row, i);
  }

  int shift(int tape, int i, int other, int j, int n) {
    if (!in(tape, 0, 5) || !in(other, 0, 5)) {
      return -1;
    }
    if (tapes[tape] == null || tapes[other] == null) {
      return -11;
    }
    if (tapes[tape].getClass() != tapes[other].getClass()) {
      return -12;
    }
    try {
      System.arraycopy(tapes[tape], i, tapes[other], j, n);
    } catch (IndexOutOfBoundsException e) {
      return -13;
    }
    return n;
  }
}
