/** What an object shows, as texts; all of it takes less than 512 calls. */
final class Look {
  private Look() {}

  /** Like 0-3 1-2 / 3-1 2-0 / 2-3 0-1: HOME - AWAY. */
  static String rounds(HomeRounds x) {
    int n = x.told(0);
    StringBuilder all = new StringBuilder();
    for (int r = 0; r < n - 1; r++) {
      all.append(r == 0 ? "" : " / ");
      for (int k = 0; k < n / 2; k++) {
        all.append(k == 0 ? "" : " ").append(x.game(r, k, 0)).append('-').append(x.game(r, k, 1));
      }
    }
    return all.toString();
  }

  /** TEAM by TEAM its x, y. */
  static String grounds(HomeRounds x) {
    StringBuilder all = new StringBuilder();
    for (int i = 0; i < x.told(0); i++) {
      all.append(i == 0 ? "" : " / ").append(x.about(i, 4)).append(' ').append(x.about(i, 5));
    }
    return all.toString();
  }

  /** Like 0@2 3@1: TEAM @ ROUND. */
  static String bars(HomeRounds x) {
    int n = x.told(0);
    StringBuilder all = new StringBuilder();
    for (int i = 0; i < n; i++) {
      for (int r = 0; r < n - 1; r++) {
        if (x.of(i, r, 3) == 1) {
          all.append(all.length() == 0 ? "" : " ").append(i).append('@').append(r);
        }
      }
    }
    return all.toString();
  }

  static String rates(HomeRounds x) {
    return x.rateOf(0) + " " + x.rateOf(1) + " " + x.rateOf(2) + " " + x.rateOf(3);
  }

  /** How many are SEEN, EVENTS, of the BOOK, bytes of THE TEXT. */
  static String counts(HomeRounds x) {
    return x.count(0) + " " + x.count(1) + " " + x.count(2) + " " + x.count(3);
  }

  /** Items of a TAPE, up to its end. */
  static String tape(HomeRounds x, int tape) {
    StringBuilder all = new StringBuilder();
    for (int i = 0; i < 60 && x.peek(tape, i) != HomeRounds.NO; i++) {
      all.append(i == 0 ? "" : " ").append(x.peek(tape, i));
    }
    return all.toString();
  }

  /** All that can be seen without a change, but for the far ends of long TAPES. */
  static String at(HomeRounds x) {
    StringBuilder all = new StringBuilder();
    all.append(x.told(0)).append("; ").append(rounds(x)).append("; ").append(grounds(x));
    all.append("; ").append(bars(x)).append("; ").append(rates(x)).append("; ").append(counts(x));
    all.append("; ").append(x.told(7)).append(' ').append(x.told(6)).append(' ').append(x.cost());
    all.append("; ").append(x.fits()).append(' ').append(x.looked());
    for (int what = 0; what < 3; what++) {
      all.append(' ').append(x.after(what));
    }
    for (int tape = 0; tape < 6; tape++) {
      all.append("; ");
      for (int i = 0; i < 6; i++) {
        long item = x.peek(tape, i);
        all.append(' ').append(item == HomeRounds.NO ? "-" : Long.toString(item));
      }
    }
    return all.toString();
  }

  /** And what shows by a change alone: THE TEXT, THE IMAGE. The object is spent then. */
  static String through(HomeRounds x) {
    String all = at(x) + " || read " + x.read() + ": " + at(x);
    return all + " || undo " + x.undo() + ": " + at(x);
  }
}
