/** The Terms of the document, section 1: set-ups in THE TEXT. */
final class TextEdges {
  private static final String[] RIGHT = {
    "teams 4", "swap 0 1", "turn 0 1", "swop 0 1", "bar 0 1", "rate 0 1", "kind 1", "at 0 1 1"
  };
  private static final String TWELVE = "kind 1;kind 2;kind 1;kind 2;kind 1;kind 2;kind 1;kind 2;"
      + "kind 1;kind 2;kind 1;kind 2";

  private TextEdges() {}

  static void run() {
    Doc.terms();
    Doc.says("A set-up is read from THE TEXT (bytes, 100 at most):", TextEdges::bytes);
    Doc.says("CLAUSES, 1 to 12, with ; between:", TextEdges::clauses);
    Doc.says("a WORD and its numbers, one blank ahead of each:", TextEdges::blanks);
    words();
    Doc.says("x, y, RATE: 1 or 2 digits; all else: a digit.", TextEdges::digits);
    Doc.says("A WORD is as many letters a .. z as stand there.", TextEdges::letters);
    Doc.says("The FAULT (from the first byte on, what comes first):", TextEdges::firstFault);
    Doc.says("the first byte of a WORD that is none of these (also at the end);",
        TextEdges::noWord);
    Doc.says("else the place of the first byte with which none begins so", TextEdges::wrongByte);
    Doc.says("(the end of THE TEXT, if it ends too early).", TextEdges::tooEarly);
    Doc.says("Without FAULT they are done, one behind the other; those that would be refused "
        + "aren't.", TextEdges::done);
  }

  /** FAULT, of a new object; -1: none. And nothing may be done by a FAULT. */
  private static int fault(String text) {
    HomeRounds x = Made.apart(4);
    HomeRounds same = Made.apart(4);
    int answer = Made.read(x, text);
    Check.due("THE TEXT is empty behind it", x.count(3), 0);
    if (answer <= -10) {
      Check.due("nothing done by a FAULT", Look.at(x), Look.at(same));
      return -10 - answer;
    }
    return -1;
  }

  private static void dueFault(String text, int place) {
    Check.due("FAULT in '" + text + "'", fault(text), place);
  }

  private static void dueDone(String text, int clauses) {
    Check.due("done of '" + text + "'", Made.read(Made.four(), text), clauses);
  }

  private static void bytes() {
    String text = "at 0 11 22;at 1 11 22;at 2 11 22;at 3 11 22;at 0 33 44;at 1 33 44;at 2 33 44;"
        + "at 3 33 44;swap 0 1";
    HomeRounds x = Made.four();
    for (int i = 0; i < text.length(); i++) {
      Check.due("byte " + i, x.feed(text.charAt(i)), i + 1);
    }
    while (x.count(3) < 100) {
      Check.due("not yet full", x.feed(';') > 0);
    }
    Check.due("the byte 101", x.feed(';'), -4);
    Check.due("still 100", x.count(3), 100);
    Check.due("a FAULT far back", x.read(), -10 - text.length() - 1);
    HomeRounds y = Made.four();
    // 100 bytes without a FAULT.
    String hundred = "rate 0 10;rate 1 50;rate 2 10;rate 3 10;rate 0 11;rate 1 51;rate 2 11;rate 3 "
        + "11;kind 1;kind 2;kind 0";
    Check.due("it is of 100 bytes", hundred.length(), 100);
    Check.due("all of it", Made.read(y, hundred), 11);
    Check.due("the last", y.told(7), 0);
    Check.due("RATES", Look.rates(y), "11 51 11 11");
    HomeRounds z = Made.four();
    Made.feed(z, hundred);
    Made.feed(z, ";x");
    Check.due("what didn't come isn't read", z.read(), 11);
  }

  private static void clauses() {
    dueFault("", 0);
    dueDone("kind 1", 1);
    dueDone("kind 1;kind 2", 2);
    dueDone(TWELVE.substring(0, TWELVE.length() - 7), 11);
    dueDone(TWELVE, 12);
    dueFault(TWELVE + ";kind 1", TWELVE.length());
    dueFault(TWELVE + ";", TWELVE.length());
    dueFault(";kind 1", 0);
    dueFault("kind 1;", 7);
    dueFault("kind 1;;kind 2", 7);
    dueFault("kind 1,kind 2", 6);
    dueFault("kind 1 ;kind 2", 6);
    dueFault("kind 1; kind 2", 7);
  }

  private static void blanks() {
    for (String text : RIGHT) {
      dueDone(text, 1);
      for (int i = text.indexOf(' '); i >= 0; i = text.indexOf(' ', i + 1)) {
        String ahead = text.substring(0, i);
        String behind = text.substring(i + 1);
        // Without the last blank, 1 1 is 11, a number of two digits, and one is missing.
        boolean isLonger = text.startsWith("at") && behind.length() == 1;
        dueFault(ahead + behind, isLonger ? text.length() - 1 : i);
        dueFault(ahead + "  " + behind, i + 1);
        dueFault(ahead + "\t" + behind, i);
        dueFault(ahead + (char) 31 + behind, i);
        dueFault(ahead + "!" + behind, i);
      }
      dueFault(" " + text, 0);
      dueFault(text + " ", text.length());
    }
  }

  private static void words() {
    Doc.says("teams n (4 or 6; another digit is no FAULT, but refused);", () -> {
      for (int n = 0; n < 10; n++) {
        HomeRounds x = Made.six();
        x.bar(0, 0);
        boolean is = n == 4 || n == 6;
        Check.due("teams " + n, Made.read(x, "teams " + n), is ? 1 : 0);
        Check.due("n behind it", x.told(0), is ? n : 6);
        Check.due("BARS behind it", x.told(6), is ? 0 : 1);
      }
    });
    Doc.says("swap r s;", () -> {
      HomeRounds x = Made.six();
      HomeRounds same = Made.six();
      same.swap(0, 4);
      Check.due("swap 0 4", Made.read(x, "swap 0 4"), 1);
      Check.due("ROUNDS", Look.rounds(x), Look.rounds(same));
      Check.due("swap 2 2", Made.read(x, "swap 2 2"), 1);
      Check.due("swap 5 0", Made.read(x, "swap 5 0"), 0);
      Check.due("swap 0 5", Made.read(x, "swap 0 5"), 0);
      Check.due("ROUNDS as they were", Look.rounds(x), Look.rounds(same));
    });
    Doc.says("turn r k;", () -> {
      HomeRounds x = Made.six();
      HomeRounds same = Made.six();
      same.turn(4, 2);
      Check.due("turn 4 2", Made.read(x, "turn 4 2"), 1);
      Check.due("turn 5 0", Made.read(x, "turn 5 0"), 0);
      Check.due("turn 0 3", Made.read(x, "turn 0 3"), 0);
      Check.due("ROUNDS", Look.rounds(x), Look.rounds(same));
    });
    Doc.says("swop i j (EXCHANGED);", () -> {
      HomeRounds x = Made.six();
      HomeRounds same = Made.six();
      same.exchange(5, 1);
      Check.due("swop 5 1", Made.read(x, "swop 5 1"), 1);
      Check.due("swop 3 3", Made.read(x, "swop 3 3"), 1);
      Check.due("swop 6 0", Made.read(x, "swop 6 0"), 0);
      Check.due("swop 0 6", Made.read(x, "swop 0 6"), 0);
      Check.due("ROUNDS", Look.rounds(x), Look.rounds(same));
    });
    Doc.says("bar i r (told, or, if it is, no more);", () -> {
      HomeRounds x = Made.six();
      Check.due("bar 5 4", Made.read(x, "bar 5 4;bar 0 1"), 2);
      Check.due("BARS", Look.bars(x), "0@1 5@4");
      Check.due("bar 5 4 again", Made.read(x, "bar 5 4"), 1);
      Check.due("bar 6 0", Made.read(x, "bar 6 0"), 0);
      Check.due("bar 0 5", Made.read(x, "bar 0 5"), 0);
      Check.due("BARS then", Look.bars(x), "0@1");
    });
    Doc.says("rate k RATE;", () -> {
      HomeRounds x = Made.four();
      Check.due("rate", Made.read(x, "rate 0 0;rate 3 99;rate 1 05"), 3);
      Check.due("rate 4 1", Made.read(x, "rate 4 1"), 0);
      Check.due("RATES", Look.rates(x), "0 5 1 99");
    });
    Doc.says("kind KIND;", () -> {
      for (int kind = 0; kind < 10; kind++) {
        HomeRounds x = Made.four();
        x.kind(1);
        Check.due("kind " + kind, Made.read(x, "kind " + kind), kind < 3 ? 1 : 0);
        Check.due("KIND behind it", x.told(7), kind < 3 ? kind : 1);
      }
    });
    Doc.says("at i x y.", () -> {
      HomeRounds x = Made.four();
      Check.due("at", Made.read(x, "at 0 99 0;at 3 1 99;at 1 07 8"), 3);
      Check.due("at 4 1 1", Made.read(x, "at 4 1 1"), 0);
      Check.due("GROUNDS", Look.grounds(x), "99 0 / 7 8 / 0 0 / 1 99");
      Check.due("4 stayed", x.teams(6) * 1000 + x.about(4, 4), 4000);
    });
  }

  private static void digits() {
    dueDone("rate 0 9;rate 0 99;rate 0 09;rate 0 00", 4);
    dueDone("at 0 9 9;at 0 99 9;at 0 9 99;at 0 99 99", 4);
    dueFault("rate 0 100", 9);
    dueFault("at 0 100 1", 7);
    dueFault("at 0 1 100", 9);
    dueFault("at 0 99 100", 10);
    dueFault("rate 00 1", 6);
    dueFault("at 00 1 1", 4);
    for (String text : RIGHT) {
      int number = text.indexOf(' ') + 1;
      dueFault(text.substring(0, number) + "1" + text.substring(number), number + 1);
      dueFault(text.substring(0, number) + "/" + text.substring(number + 1), number);
      dueFault(text.substring(0, number) + ":" + text.substring(number + 1), number);
      dueFault(text.substring(0, number) + "-" + text.substring(number), number);
      boolean isLong = text.startsWith("rate") || text.startsWith("at");
      int last = text.length();
      dueFault(text + "1;", isLong ? last + 2 : last);
      dueFault(text + "11", isLong ? last + 1 : last);
      dueFault(text + "a", last);
    }
    HomeRounds x = Made.four();
    Check.due("both digits", Made.read(x, "rate 0 47;at 0 35 68"), 2);
    Check.due("RATE", x.rateOf(0), 47);
    Check.due("GROUND", x.ground(0, 0, 0), 3568);
  }

  private static void letters() {
    for (String text : RIGHT) {
      dueFault("a" + text, 0);
      dueFault("z" + text, 0);
      int end = text.indexOf(' ');
      dueFault(text.substring(0, end) + "a" + text.substring(end), 0);
      dueFault(text.substring(0, end) + "z" + text.substring(end), 0);
      // These are no letters: the WORD ends ahead of them, and is one.
      dueFault(text.substring(0, end) + "`" + text.substring(end), end);
      dueFault(text.substring(0, end) + "{" + text.substring(end), end);
      dueFault(text.substring(0, end) + "A" + text.substring(end), end);
      dueFault(text.substring(0, end - 1) + text.substring(end), 0);
      dueFault(text.substring(1), 0);
      for (int i = 0; i < end; i++) {
        dueFault(text.substring(0, i) + "z" + text.substring(i + 1), 0);
      }
      dueFault(Character.toUpperCase(text.charAt(0)) + text.substring(1), 0);
    }
  }

  private static void firstFault() {
    dueFault("kind 1;kind x;kind y", 12);
    dueFault("kind 1;kynd 1;kind y", 7);
    dueFault("kind 1 kynd", 6);
    dueFault("kynd 1;kind", 0);
    dueFault("kind;kynd", 4);
    dueFault("kind 1;at 0 1 1;swap 0 1;bar 0", 30);
  }

  private static void noWord() {
    dueFault("tea", 0);
    dueFault("kind 1;tea", 7);
    dueFault("kind 1;kin", 7);
    dueFault("kind 1;teamsx", 7);
    dueFault("kind 1;", 7);
    dueFault("kind 1;7", 7);
    dueFault("kind 1;\0", 7);
    dueFault("\177", 0);
    dueFault("exchange 0 1", 0);
    dueFault("image", 0);
  }

  private static void wrongByte() {
    dueFault("teams;", 5);
    dueFault("teams ;", 6);
    dueFault("teams 4x", 7);
    dueFault("teams x", 6);
    dueFault("swap 0;kind 1", 6);
    dueFault("swap 0 1 2", 8);
    dueFault("at 0 1;kind 1", 6);
    dueFault("at 0 1 ;kind 1", 7);
    dueFault("rate 0 1.5", 8);
    dueFault("kind 1\0", 6);
    dueFault("kind \177", 5);
  }

  private static void tooEarly() {
    for (String text : RIGHT) {
      for (int end = text.indexOf(' '); end < text.length(); end++) {
        dueFault(text.substring(0, end), end);
        dueFault("kind 1;" + text.substring(0, end), 7 + end);
      }
    }
    dueFault("at 0 10 ", 8);
    dueFault("at 0 10", 7);
    // THE TEXT is full, and ends behind a WORD.
    String ahead = "at 0 11 22;".repeat(8) + "bar 1 1;";
    Check.due("bytes ahead", ahead.length(), 96);
    dueFault(ahead + "kind", 100);
    dueFault(ahead + "kynd", 96);
  }

  private static void done() {
    HomeRounds x = Made.four();
    Check.due("in their order", Made.read(x, "rate 0 1;rate 0 2;rate 0 3"), 3);
    Check.due("the last stays", x.rateOf(0), 3);
    Check.due("TEAM 5 comes by what is ahead", Made.read(x, "at 5 1 2;teams 6;at 5 3 4"), 2);
    Check.due("GROUND of 5", x.ground(5, 0, 0), 304);
    Check.due("and goes", Made.read(x, "bar 5 4;teams 4;bar 5 4;swap 0 3;turn 0 2;bar 3 2"), 3);
    Check.due("BARS", Look.bars(x), "3@2");
    Check.due("none is done", Made.read(x, "kind 3;kind 4;teams 5"), 0);
    Check.due("a FAULT behind right ones", Made.read(x, "kind 2;rate 0 9;bar 0 0;"), -10 - 24);
    Check.due("none of them done", x.told(7) * 100 + x.rateOf(0) * 10 + x.told(6), 31);
  }
}
