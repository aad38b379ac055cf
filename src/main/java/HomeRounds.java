import java.util.Arrays;

/**
 * Home and away: rounds in which each meets each once, as ../shared/DOC.md promises them. Words in
 * capitals here are that document's terms.
 *
 * <p>Every row is made in a constructor and used again, so that no call makes an object.
 */
public final class HomeRounds {
    public static final int NONE = -1, BAD = -2, STATE = -3, FULL = -4;
    public static final long NO = Long.MIN_VALUE;

    private static final int UNFOUND = -5;
    private static final int NOTHING = -11, CAST = -12, PLACE = -13, SIZE = -14;
    private static final int FAULTY = -10, ENDED = 100;

    private static final int MOST_TEAMS = 6, MOST_ROUNDS = 5, MOST_GAMES = 3;
    private static final int RATES = 4, KINDS = 3, MANNERS = 3, TAPES = 6, SORTS = 5;
    private static final int MOST_SEEN = 6, MOST_EVENTS = 8, MOST_BOOK = 8;
    private static final int MOST_SEASON = 10, MOST_BREAKS = 4, MOST_STEPS = 50;
    private static final int MOST_SIGNS = 100, MOST_CLAUSES = 12, MOST_ITEMS = 60;
    private static final int MOST_NUMBER = 99, MOST_ROWS = 12;

    // The numbers of the EVENTS; a STEP by a MANNER does the first three of them.
    private static final int SWAPPED = 0, TURNED = 1, EXCHANGED = 2, RATED = 3;

    private static final int AGAIN = 0, BACK = 1;
    private static final int BYTES = 0, SHORTS = 1, INTS = 2, BOOLEANS = 4;

    private static final Word[] WORDS = Word.values();

    private final Setting now = new Setting();
    private final Setting kept = new Setting();
    private final Setting trial = new Setting();
    private final Text text = new Text();
    private final Tape[] tapes = new Tape[TAPES];
    private boolean isKept;

    public HomeRounds() {
        for (int i = 0; i < TAPES; i++) {
            tapes[i] = new Tape();
        }
    }

    // ---- teams, rounds

    public int teams(int n) {
        if (n != 4 && n != 6) {
            return BAD;
        }
        int was = now.plan.n;
        now.startAnew(n);
        return was;
    }

    public int ground(int team, int x, int y) {
        if (!now.plan.hasTeam(team)) {
            return NONE;
        }
        if (!isNumber(x) || !isNumber(y)) {
            return BAD;
        }
        int was = 100 * now.xs[team] + now.ys[team];
        now.xs[team] = x;
        now.ys[team] = y;
        return was;
    }

    public int swap(int r, int s) {
        if (!now.mayChange(SWAPPED, r, s)) {
            return NONE;
        }
        now.change(SWAPPED, r, s);
        return now.plan.allBreaks();
    }

    public int turn(int r, int k) {
        if (!now.mayChange(TURNED, r, k)) {
            return NONE;
        }
        now.change(TURNED, r, k);
        return now.plan.homeOf(r, k);
    }

    public int exchange(int i, int j) {
        if (!now.mayChange(EXCHANGED, i, j)) {
            return NONE;
        }
        now.change(EXCHANGED, i, j);
        return i == j ? now.plan.n - 1 : now.plan.meetingOf(i, j);
    }

    public int bar(int team, int r) {
        if (!now.plan.hasPlace(team, r)) {
            return NONE;
        }
        int cell = cellOf(team, r);
        now.bars[cell] = !now.bars[cell];
        return now.bars[cell] ? 1 : 0;
    }

    public int rate(int k, int v) {
        if (!isRate(k)) {
            return NONE;
        }
        if (!isNumber(v)) {
            return BAD;
        }
        int was = now.rates[k];
        now.change(RATED, k, v);
        return was;
    }

    public int kind(int kind) {
        if (kind < 0 || kind >= KINDS) {
            return BAD;
        }
        int was = now.seasonKind;
        now.seasonKind = kind;
        return was;
    }

    public int feed(int sign) {
        if (sign < 0 || sign > 127) {
            return BAD;
        }
        if (text.length >= MOST_SIGNS) {
            return FULL;
        }
        text.signs[text.length] = (byte) sign;
        text.length++;
        return text.length;
    }

    public int read() {
        int fault = text.parse();
        text.length = 0;
        if (fault >= 0) {
            return FAULTY - fault;
        }
        int done = 0;
        for (int row = 0; row < text.clauses.size; row++) {
            if (doClause(row) >= 0) {
                done++;
            }
        }
        return done;
    }

    public int step(int manner, int n) {
        if (manner < 0 || manner >= MANNERS || n < 0 || n > MOST_STEPS) {
            return BAD;
        }
        int deed = manner == 0 ? TURNED : manner == 1 ? SWAPPED : EXCHANGED;
        int done = 0;
        while (done < n && now.takeStep(deed)) {
            done++;
        }
        return done;
    }

    // ---- what is so

    public int game(int r, int k, int what) {
        if (!now.plan.hasGame(r, k) || what < 0 || what > 1) {
            return NONE;
        }
        return what == 0 ? now.plan.homeOf(r, k) : now.plan.awayOf(r, k);
    }

    public int of(int team, int r, int what) {
        if (!now.plan.hasPlace(team, r)) {
            return NONE;
        }
        switch (what) {
            case 0:
                return now.plan.rivalOf(team, r);
            case 1:
                return now.plan.sideOf(team, r);
            case 2:
                return now.plan.gameOf(team, r);
            case 3:
                return now.isBarred(team, r) ? 1 : 0;
            default:
                return NONE;
        }
    }

    public int season(int team, int r, int what) {
        Plan plan = now.plan;
        if (!plan.hasTeam(team) || !plan.hasSeasonRound(r)) {
            return NONE;
        }
        switch (what) {
            case 0:
                return plan.rivalOf(team, plan.halfRound(r, now.seasonKind));
            case 1:
                return plan.seasonSide(team, r, now.seasonKind);
            default:
                return NONE;
        }
    }

    public int when(int i, int j) {
        if (!now.plan.hasPair(i, j)) {
            return NONE;
        }
        return now.plan.meetingOf(i, j);
    }

    public int about(int team, int what) {
        if (!now.plan.hasTeam(team)) {
            return NONE;
        }
        switch (what) {
            case 0:
                return now.plan.patternOf(team);
            case 1:
                return now.plan.breaksOf(team);
            case 2:
                return now.plan.otherOf(team);
            case 3:
                return now.milesOf(team);
            case 4:
                return now.xs[team];
            case 5:
                return now.ys[team];
            case 6:
                return now.plan.seasonBreaks(team, now.seasonKind);
            default:
                return NONE;
        }
    }

    public int carried(int i, int j) {
        if (!now.plan.hasPair(i, j)) {
            return NONE;
        }
        return now.plan.carriedOf(i, j);
    }

    public int loop(int r, int s, int team) {
        Plan plan = now.plan;
        if (!plan.hasRound(r) || !plan.hasRound(s) || r == s || !plan.hasTeam(team)) {
            return NONE;
        }
        return plan.loopOf(r, s, team);
    }

    public int told(int what) {
        switch (what) {
            case 0:
                return now.plan.n;
            case 1:
                return now.plan.allBreaks();
            case 2:
                return now.violations();
            case 3:
                return now.plan.carry();
            case 4:
                return now.allMiles();
            case 5:
                return now.mostWorn();
            case 6:
                return now.allBars();
            case 7:
                return now.seasonKind;
            case 8:
                return now.plan.allSeasonBreaks(now.seasonKind);
            case 9:
                return now.plan.allBreaks() - (now.plan.n - 2);
            default:
                return NONE;
        }
    }

    public int rateOf(int k) {
        return isRate(k) ? now.rates[k] : NONE;
    }

    // ---- floats

    public long wear(int team, int r) {
        if (!now.plan.hasPlace(team, r)) {
            return NO;
        }
        return bitsOfFloat(now.wearBehind(team, r));
    }

    public long cost() {
        return bitsOfFloat(now.fullCost());
    }

    public long would(int r, int k) {
        if (!now.mayChange(TURNED, r, k)) {
            return NO;
        }
        return bitsOfFloat(now.costIf(TURNED, r, k));
    }

    public long spread(int part) {
        if (!isPart(part)) {
            return NO;
        }
        long bits = bitsOfDouble(now.spreadOfWear());
        return part == 0 ? bits >>> 32 : bits & 0xFFFFFFFFL;
    }

    // ---- seen, odds

    public int see(int team, int r, boolean isHome) {
        if (team == -1) {
            now.seen.empty();
            return 0;
        }
        if (!now.plan.hasTeam(team)) {
            return NONE;
        }
        if (r < 0 || r >= MOST_SEASON) {
            return BAD;
        }
        if (now.seen.isFull()) {
            return FULL;
        }
        now.seen.add(team, r, isHome ? 1 : 0, 0);
        return now.seen.size;
    }

    public int fits() {
        int bits = 0;
        for (int kind = 0; kind < KINDS; kind++) {
            if (now.isSeenBy(kind)) {
                bits |= 1 << kind;
            }
        }
        return bits;
    }

    public long odds(int team, int part) {
        if (!now.plan.hasTeam(team) || !isPart(part)) {
            return NO;
        }
        int pairs = now.plan.seasonLength() - 1;
        return lowest(now.plan.seasonBreaks(team, now.seasonKind), pairs, part);
    }

    public long mean(int part) {
        if (!isPart(part)) {
            return NO;
        }
        return lowest(now.plan.allBreaks(), now.plan.n, part);
    }

    // ---- events, books

    public int event(int what, int n) {
        if (what == -1) {
            now.events.empty();
            return 0;
        }
        if (n < 0 || !now.mayChange(what, n / 10, n % 10)) {
            return NONE;
        }
        if (now.events.isFull()) {
            return FULL;
        }
        now.events.add(what, n / 10, n % 10, 0);
        return now.events.size;
    }

    public long after(int what) {
        if (what < 0 || what > 2) {
            return NO;
        }
        trial.become(now);
        Rows rows = trial.events;
        for (int row = 0; row < rows.size; row++) {
            trial.change(rows.at(row, 0), rows.at(row, 1), rows.at(row, 2));
        }
        switch (what) {
            case 0:
                return trial.plan.allBreaks();
            case 1:
                return trial.violations();
            default:
                return bitsOfFloat(trial.fullCost());
        }
    }

    public int book(int team, int n) {
        if (team == -1) {
            now.ledger.empty();
            return 0;
        }
        if (!now.plan.hasTeam(team)) {
            return NONE;
        }
        if (n < 0 || n > MOST_BREAKS) {
            return BAD;
        }
        if (now.ledger.isFull()) {
            return FULL;
        }
        now.ledger.add(team, n, 0, 0);
        return now.ledger.size;
    }

    public int looked() {
        for (int row = 0; row < now.ledger.size; row++) {
            if (now.plan.breaksOf(now.ledger.at(row, 0)) != now.ledger.at(row, 1)) {
                return row;
            }
        }
        return UNFOUND;
    }

    // ---- judging, the image, tapes

    public int judge(int team, int tape, int i) {
        Tape row = tapeAt(tape);
        if (!now.plan.hasTeam(team) || row == null) {
            return NONE;
        }
        if (row.holdsNothing()) {
            return ENDED;
        }
        if (row.sort != INTS) {
            return CAST;
        }
        if (!row.has(i)) {
            return ENDED;
        }
        for (int r = 0; r < now.plan.n - 1; r++) {
            if (!row.has(i + r)) {
                return ENDED + r;
            }
            if (row.items[i + r] != bitsOfFloat(now.wearBehind(team, r))) {
                return r;
            }
        }
        return UNFOUND;
    }

    public int image() {
        kept.become(now);
        isKept = true;
        return now.plan.n;
    }

    public int undo() {
        if (!isKept) {
            return STATE;
        }
        now.become(kept);
        return now.plan.n;
    }

    public int count(int what) {
        switch (what) {
            case 0:
                return now.seen.size;
            case 1:
                return now.events.size;
            case 2:
                return now.ledger.size;
            case 3:
                return text.length;
            default:
                return BAD;
        }
    }

    public int tape(int tape, int sort, int n) {
        Tape row = tapeAt(tape);
        if (row == null) {
            return NONE;
        }
        if (sort == -1) {
            row.become(sort, 0);
            return 1;
        }
        if (sort < 0 || sort >= SORTS || n > MOST_ITEMS) {
            return BAD;
        }
        if (n < 0) {
            return SIZE;
        }
        row.become(sort, n);
        return 1;
    }

    public int item(int tape, int i, long v) {
        Tape row = tapeAt(tape);
        if (row == null) {
            return NONE;
        }
        if (row.holdsNothing()) {
            return NOTHING;
        }
        if (!row.has(i)) {
            return PLACE;
        }
        row.items[i] = row.cut(v);
        return 1;
    }

    public long peek(int tape, int i) {
        Tape row = tapeAt(tape);
        if (row == null || !row.has(i)) {
            return NO;
        }
        return row.items[i];
    }

    public int shift(int tape, int i, int other, int j, int n) {
        Tape from = tapeAt(tape);
        Tape to = tapeAt(other);
        if (from == null || to == null) {
            return NONE;
        }
        if (from.holdsNothing() || to.holdsNothing()) {
            return NOTHING;
        }
        if (from.sort != to.sort) {
            return CAST;
        }
        if (!from.hasRun(i, n) || !to.hasRun(j, n)) {
            return PLACE;
        }
        System.arraycopy(from.items, i, to.items, j, n);
        return n;
    }

    // ---- helpers of the face

    private Tape tapeAt(int tape) {
        return tape >= 0 && tape < tapes.length ? tapes[tape] : null;
    }

    /** Does a CLAUSE that was read: below 0, if it is refused. */
    private int doClause(int row) {
        Rows clauses = text.clauses;
        int word = clauses.at(row, 0);
        int a = clauses.at(row, 1);
        int b = clauses.at(row, 2);
        if (word < 0 || word >= WORDS.length) {
            return NONE;
        }
        switch (WORDS[word]) {
            case TEAMS:
                return teams(a);
            case SWAP:
                return swap(a, b);
            case TURN:
                return turn(a, b);
            case SWOP:
                return exchange(a, b);
            case BAR:
                return bar(a, b);
            case RATE:
                return rate(a, b);
            case KIND:
                return kind(a);
            case AT:
                return ground(a, b, clauses.at(row, 3));
            default:
                return NONE;
        }
    }

    private static boolean isNumber(int v) {
        return v >= 0 && v <= MOST_NUMBER;
    }

    private static boolean isRate(int k) {
        return k >= 0 && k < RATES;
    }

    private static boolean isPart(int part) {
        return part == 0 || part == 1;
    }

    private static int cellOf(int team, int r) {
        return r * MOST_TEAMS + team;
    }

    /** Of a fraction in lowest terms what is above (part 0), what is below the line (1). */
    private static long lowest(int above, int below, int part) {
        int a = above;
        int b = below;
        for (int i = 0; i < 64 && b != 0; i++) {
            int rest = a % b;
            a = b;
            b = rest;
        }
        if (a == 0) {
            return 0;
        }
        return part == 0 ? above / a : below / a;
    }

    private static long bitsOfFloat(float v) {
        return bitsOf(v, 127, 23);
    }

    private static long bitsOfDouble(double v) {
        return bitsOf(v, 1023, 52);
    }

    /**
     * The library's own functions for this are not in the language, so the bits are built. All that
     * is asked for is 0, or so far from the ends of the range that every step here is exact.
     */
    private static long bitsOf(double v, int bias, int digits) {
        if (!(v > 0.0)) {
            return 0;
        }
        double part = v;
        long exponent = bias;
        for (int i = 0; i < 1100 && part >= 2.0; i++) {
            part = part / 2.0;
            exponent++;
        }
        for (int i = 0; i < 1100 && part < 1.0; i++) {
            part = part * 2.0;
            exponent--;
        }
        return (exponent << digits) + (long) ((part - 1.0) * (double) (1L << digits));
    }

    /** A WORD of THE TEXT, and of each of its numbers whether it has 1 digit, or 2 too. */
    private enum Word {
        TEAMS("teams", "1"),
        SWAP("swap", "11"),
        TURN("turn", "11"),
        SWOP("swop", "11"),
        BAR("bar", "11"),
        RATE("rate", "12"),
        KIND("kind", "1"),
        AT("at", "122");

        final String letters;
        final String numbers;

        Word(String letters, String numbers) {
            this.letters = letters;
            this.numbers = numbers;
        }
    }

    /** The ROUNDS of the first half, and what hangs on them alone. */
    private static final class Plan {
        int n;
        final int[] homes = new int[MOST_ROUNDS * MOST_GAMES];
        final int[] aways = new int[MOST_ROUNDS * MOST_GAMES];
        // The same told by TEAM and ROUND: put() alone writes either, so that they stay alike.
        final int[] rivals = new int[MOST_ROUNDS * MOST_TEAMS];
        final int[] sides = new int[MOST_ROUNDS * MOST_TEAMS];
        final int[] games = new int[MOST_ROUNDS * MOST_TEAMS];
        final int[] carries = new int[MOST_TEAMS * MOST_TEAMS];

        boolean hasTeam(int team) {
            return team >= 0 && team < n;
        }

        boolean hasRound(int r) {
            return r >= 0 && r < n - 1;
        }

        // Calls may go eight deep: the longest ways end here, so these three look for themselves.
        boolean hasPlace(int team, int r) {
            return team >= 0 && team < n && r >= 0 && r < n - 1;
        }

        boolean hasPair(int i, int j) {
            return i >= 0 && i < n && j >= 0 && j < n && i != j;
        }

        boolean hasGame(int r, int k) {
            return r >= 0 && r < n - 1 && k >= 0 && k < n / 2;
        }

        int homeOf(int r, int k) {
            return hasGame(r, k) ? homes[r * MOST_GAMES + k] : NONE;
        }

        int awayOf(int r, int k) {
            return hasGame(r, k) ? aways[r * MOST_GAMES + k] : NONE;
        }

        int rivalOf(int team, int r) {
            return hasPlace(team, r) ? rivals[cellOf(team, r)] : NONE;
        }

        int sideOf(int team, int r) {
            return hasPlace(team, r) ? sides[cellOf(team, r)] : NONE;
        }

        int gameOf(int team, int r) {
            return hasPlace(team, r) ? games[cellOf(team, r)] : NONE;
        }

        /** On whose GROUND a TEAM is behind a ROUND; ahead of ROUND 0 on its own. */
        int hostOf(int team, int r) {
            if (!hasPlace(team, r)) {
                return team;
            }
            int cell = cellOf(team, r);
            return sides[cell] == 1 ? team : rivals[cell];
        }

        void put(int r, int k, int home, int away) {
            if (!hasGame(r, k) || !hasPair(home, away)) {
                return;
            }
            homes[r * MOST_GAMES + k] = home;
            aways[r * MOST_GAMES + k] = away;
            int here = cellOf(home, r);
            int there = cellOf(away, r);
            rivals[here] = away;
            rivals[there] = home;
            sides[here] = 1;
            sides[there] = 0;
            games[here] = k;
            games[there] = k;
        }

        /** THE CIRCLE of 4 or 6 TEAMS. */
        void layCircle(int teams) {
            n = teams == 6 ? 6 : 4;
            int last = n - 1;
            for (int r = 0; r < last; r++) {
                if (r % 2 == 0) {
                    put(r, 0, r, last);
                } else {
                    put(r, 0, last, r);
                }
                for (int i = 1; i < n / 2; i++) {
                    int a = r + i < last ? r + i : r + i - last;
                    int b = r - i >= 0 ? r - i : r - i + last;
                    if (i % 2 == 1) {
                        put(r, i, a, b);
                    } else {
                        put(r, i, b, a);
                    }
                }
            }
        }

        void become(Plan other) {
            n = other.n;
            System.arraycopy(other.homes, 0, homes, 0, homes.length);
            System.arraycopy(other.aways, 0, aways, 0, aways.length);
            System.arraycopy(other.rivals, 0, rivals, 0, rivals.length);
            System.arraycopy(other.sides, 0, sides, 0, sides.length);
            System.arraycopy(other.games, 0, games, 0, games.length);
        }

        void swapRounds(int r, int s) {
            for (int k = 0; k < n / 2; k++) {
                int home = homeOf(r, k);
                int away = awayOf(r, k);
                put(r, k, homeOf(s, k), awayOf(s, k));
                put(s, k, home, away);
            }
        }

        void turnGame(int r, int k) {
            put(r, k, awayOf(r, k), homeOf(r, k));
        }

        void exchangeTeams(int i, int j) {
            for (int r = 0; r < n - 1; r++) {
                for (int k = 0; k < n / 2; k++) {
                    put(r, k, exchanged(homeOf(r, k), i, j), exchanged(awayOf(r, k), i, j));
                }
            }
        }

        static int exchanged(int team, int i, int j) {
            return team == i ? j : team == j ? i : team;
        }

        int patternOf(int team) {
            int bits = 0;
            for (int r = 0; r < n - 1; r++) {
                if (sideOf(team, r) == 1) {
                    bits |= 1 << r;
                }
            }
            return bits;
        }

        int otherOf(int team) {
            int all = (1 << (n - 1)) - 1;
            int wanted = all ^ patternOf(team);
            for (int i = 0; i < n; i++) {
                if (patternOf(i) == wanted) {
                    return i;
                }
            }
            return UNFOUND;
        }

        int breaksOf(int team) {
            int breaks = 0;
            for (int r = 0; r + 1 < n - 1; r++) {
                if (sideOf(team, r) == sideOf(team, r + 1)) {
                    breaks++;
                }
            }
            return breaks;
        }

        int allBreaks() {
            int breaks = 0;
            for (int i = 0; i < n; i++) {
                breaks += breaksOf(i);
            }
            return breaks;
        }

        int meetingOf(int i, int j) {
            for (int r = 0; r < n - 1; r++) {
                if (rivalOf(i, r) == j) {
                    return r;
                }
            }
            return NONE;
        }

        int loopOf(int r, int s, int team) {
            int size = 0;
            int here = team;
            do {
                here = rivalOf(rivalOf(here, r), s);
                size += 2;
            } while (here != team && size < n);
            return size;
        }

        void tallyCarries() {
            Arrays.fill(carries, 0);
            for (int r = 0; r + 1 < n - 1; r++) {
                for (int i = 0; i < n; i++) {
                    int j = rivalOf(rivalOf(i, r), r + 1);
                    if (hasTeam(j)) {
                        carries[i * MOST_TEAMS + j]++;
                    }
                }
            }
        }

        int carriedOf(int i, int j) {
            tallyCarries();
            return hasPair(i, j) ? carries[i * MOST_TEAMS + j] : 0;
        }

        int carry() {
            tallyCarries();
            int sum = 0;
            for (int i = 0; i < n; i++) {
                for (int j = 0; j < n; j++) {
                    int times = i == j ? 0 : carries[i * MOST_TEAMS + j];
                    sum += times * times;
                }
            }
            return sum;
        }

        int seasonLength() {
            return 2 * (n - 1);
        }

        boolean hasSeasonRound(int r) {
            return r >= 0 && r < seasonLength();
        }

        /** The ROUND of the first half that a ROUND of THE SEASON is made of. */
        int halfRound(int r, int kind) {
            int last = n - 2;
            int k = r - (n - 1);
            if (k < 0) {
                return r;
            }
            if (kind == AGAIN) {
                return k;
            }
            if (kind == BACK) {
                return last - k;
            }
            return k == 0 ? last : k - 1;
        }

        int seasonSide(int team, int r, int kind) {
            int side = sideOf(team, halfRound(r, kind));
            return r < n - 1 ? side : 1 - side;
        }

        int seasonBreaks(int team, int kind) {
            int breaks = 0;
            for (int r = 0; r + 1 < seasonLength(); r++) {
                if (seasonSide(team, r, kind) == seasonSide(team, r + 1, kind)) {
                    breaks++;
                }
            }
            return breaks;
        }

        int allSeasonBreaks(int kind) {
            int breaks = 0;
            for (int i = 0; i < n; i++) {
                breaks += seasonBreaks(i, kind);
            }
            return breaks;
        }
    }

    /** All that THE IMAGE holds, and what is reckoned from it. */
    private static final class Setting {
        final Plan plan = new Plan();
        final int[] xs = new int[MOST_TEAMS];
        final int[] ys = new int[MOST_TEAMS];
        final boolean[] bars = new boolean[MOST_ROUNDS * MOST_TEAMS];
        final int[] rates = {10, 50, 1, 0};
        int seasonKind;
        final Rows seen = new Rows(MOST_SEEN);
        final Rows events = new Rows(MOST_EVENTS);
        final Rows ledger = new Rows(MOST_BOOK);

        Setting() {
            plan.layCircle(4);
        }

        void startAnew(int teams) {
            plan.layCircle(teams);
            for (int i = 0; i < bars.length; i++) {
                bars[i] = false;
            }
            seen.empty();
            events.empty();
            ledger.empty();
        }

        void become(Setting other) {
            plan.become(other.plan);
            System.arraycopy(other.xs, 0, xs, 0, xs.length);
            System.arraycopy(other.ys, 0, ys, 0, ys.length);
            System.arraycopy(other.bars, 0, bars, 0, bars.length);
            System.arraycopy(other.rates, 0, rates, 0, rates.length);
            seasonKind = other.seasonKind;
            seen.become(other.seen);
            events.become(other.events);
            ledger.become(other.ledger);
        }

        boolean mayChange(int deed, int a, int b) {
            switch (deed) {
                case SWAPPED:
                    return plan.hasRound(a) && plan.hasRound(b);
                case TURNED:
                    return plan.hasGame(a, b);
                case EXCHANGED:
                    return plan.hasTeam(a) && plan.hasTeam(b);
                case RATED:
                    return isRate(a) && isNumber(b);
                default:
                    return false;
            }
        }

        /** Does a deed; any but RATED, done twice, leaves all as it was. */
        void change(int deed, int a, int b) {
            switch (deed) {
                case SWAPPED:
                    plan.swapRounds(a, b);
                    break;
                case TURNED:
                    plan.turnGame(a, b);
                    break;
                case EXCHANGED:
                    plan.exchangeTeams(a, b);
                    break;
                default:
                    if (isRate(a)) {
                        rates[a] = b;
                    }
                    break;
            }
        }

        float costIf(int deed, int a, int b) {
            change(deed, a, b);
            float cost = fullCost();
            change(deed, a, b);
            return cost;
        }

        /** Does one STEP, if there is one: whether there was. */
        boolean takeStep(int deed) {
            float least = fullCost();
            int bestA = NONE;
            int bestB = NONE;
            int ends = deed == EXCHANGED ? plan.n : plan.n - 1;
            int games = plan.n / 2;
            for (int a = 0; a < ends; a++) {
                int first = deed == TURNED ? 0 : a + 1;
                int end = deed == TURNED ? games : ends;
                for (int b = first; b < end; b++) {
                    float cost = costIf(deed, a, b);
                    if (cost < least) {
                        least = cost;
                        bestA = a;
                        bestB = b;
                    }
                }
            }
            if (bestA == NONE) {
                return false;
            }
            change(deed, bestA, bestB);
            return true;
        }

        boolean isBarred(int team, int r) {
            return plan.hasPlace(team, r) && bars[cellOf(team, r)];
        }

        int allBars() {
            int number = 0;
            for (int i = 0; i < bars.length; i++) {
                number += bars[i] ? 1 : 0;
            }
            return number;
        }

        int violations() {
            int number = 0;
            for (int r = 0; r < plan.n - 1; r++) {
                for (int k = 0; k < plan.n / 2; k++) {
                    number += isBarred(plan.homeOf(r, k), r) ? 1 : 0;
                }
            }
            return number;
        }

        int far(int i, int j) {
            if (!plan.hasTeam(i) || !plan.hasTeam(j)) {
                return 0;
            }
            return Math.abs(xs[i] - xs[j]) + Math.abs(ys[i] - ys[j]);
        }

        int wayOf(int team, int r) {
            return far(plan.hostOf(team, r - 1), plan.hostOf(team, r));
        }

        int milesOf(int team) {
            int miles = 0;
            int here = team;
            for (int r = 0; r < plan.n - 1; r++) {
                int next = plan.hostOf(team, r);
                miles += far(here, next);
                here = next;
            }
            return miles + far(here, team);
        }

        int allMiles() {
            int miles = 0;
            for (int i = 0; i < plan.n; i++) {
                miles += milesOf(i);
            }
            return miles;
        }

        float wearBehind(int team, int r) {
            float wear = 0.0f;
            for (int i = 0; i <= r && i < MOST_ROUNDS; i++) {
                wear = wear * 0.75f + (float) wayOf(team, i) / 3.0f;
            }
            return wear;
        }

        float lastWear(int team) {
            return wearBehind(team, plan.n - 2);
        }

        int mostWorn() {
            int most = 0;
            float greatest = lastWear(0);
            for (int i = 1; i < plan.n; i++) {
                float wear = lastWear(i);
                if (wear > greatest) {
                    greatest = wear;
                    most = i;
                }
            }
            return most;
        }

        double spreadOfWear() {
            double number = (double) plan.n;
            double sum = 0.0;
            for (int i = 0; i < plan.n; i++) {
                sum = sum + (double) lastWear(i);
            }
            double middle = sum / number;
            double squares = 0.0;
            for (int i = 0; i < plan.n; i++) {
                double off = (double) lastWear(i) - middle;
                squares = squares + off * off;
            }
            return squares / number;
        }

        float weighed(int k, int number) {
            return isRate(k) ? (float) rates[k] / 10.0f * (float) number : 0.0f;
        }

        float fullCost() {
            float cost = weighed(0, plan.allBreaks());
            cost = cost + weighed(1, violations());
            cost = cost + weighed(2, plan.carry());
            cost = cost + weighed(3, allMiles());
            return cost;
        }

        boolean isSeenBy(int kind) {
            for (int row = 0; row < seen.size; row++) {
                int r = seen.at(row, 1);
                if (!plan.hasSeasonRound(r)) {
                    return false;
                }
                if (plan.seasonSide(seen.at(row, 0), r, kind) != seen.at(row, 2)) {
                    return false;
                }
            }
            return true;
        }
    }

    /** Rows of four numbers, up to a limit. */
    private static final class Rows {
        static final int WIDTH = 4;

        final int limit;
        final int[] cells = new int[MOST_ROWS * WIDTH];
        int size;

        Rows(int limit) {
            this.limit = Math.min(limit, MOST_ROWS);
        }

        void empty() {
            size = 0;
        }

        boolean isFull() {
            return size >= limit;
        }

        void add(int a, int b, int c, int d) {
            if (isFull()) {
                return;
            }
            int first = size * WIDTH;
            cells[first] = a;
            cells[first + 1] = b;
            cells[first + 2] = c;
            cells[first + 3] = d;
            size++;
        }

        int at(int row, int column) {
            if (row < 0 || row >= size || column < 0 || column >= WIDTH) {
                return 0;
            }
            return cells[row * WIDTH + column];
        }

        void become(Rows other) {
            size = Math.min(other.size, limit);
            System.arraycopy(other.cells, 0, cells, 0, cells.length);
        }
    }

    /** THE TEXT, and the CLAUSES that were read in it: the number of a WORD, its numbers. */
    private static final class Text {
        final byte[] signs = new byte[MOST_SIGNS];
        final Rows clauses = new Rows(MOST_CLAUSES);
        final int[] numbers = new int[3];
        int length;
        int place;

        int signHere() {
            return place >= 0 && place < length && place < signs.length ? signs[place] : NONE;
        }

        boolean isDigitHere() {
            int sign = signHere();
            return sign >= '0' && sign <= '9';
        }

        /** Takes THE TEXT apart into CLAUSES: the FAULT, or NONE. */
        int parse() {
            clauses.empty();
            place = 0;
            for (int i = 0; i < MOST_CLAUSES; i++) {
                int fault = parseClause();
                if (fault >= 0) {
                    return fault;
                }
                if (place >= length) {
                    return NONE;
                }
                if (signHere() != ';' || clauses.isFull()) {
                    return place;
                }
                place++;
            }
            return place;
        }

        /** Takes the CLAUSE that begins here, and goes behind it: the FAULT, or NONE. */
        int parseClause() {
            int start = place;
            int found = takeWord();
            if (found < 0) {
                return start;
            }
            String widths = WORDS[found].numbers;
            Arrays.fill(numbers, 0);
            for (int i = 0; i < widths.length() && i < numbers.length; i++) {
                if (signHere() != ' ') {
                    return place;
                }
                place++;
                if (!isDigitHere()) {
                    return place;
                }
                numbers[i] = takeNumber(widths.charAt(i) == '2');
            }
            clauses.add(found, numbers[0], numbers[1], numbers[2]);
            return NONE;
        }

        /** Takes the WORD that begins here, and goes behind it: its number, or NONE. */
        int takeWord() {
            int start = place;
            for (int i = 0; i < MOST_SIGNS && signHere() >= 'a' && signHere() <= 'z'; i++) {
                place++;
            }
            for (int i = 0; i < WORDS.length; i++) {
                if (stands(WORDS[i].letters, start, place)) {
                    return i;
                }
            }
            return NONE;
        }

        boolean stands(String letters, int start, int end) {
            if (start < 0 || end > signs.length || letters.length() != end - start) {
                return false;
            }
            for (int i = 0; i < letters.length(); i++) {
                if (letters.charAt(i) != signs[start + i]) {
                    return false;
                }
            }
            return true;
        }

        /** Takes the number that begins with the digit here, and goes behind it. */
        int takeNumber(boolean mayHaveTwo) {
            int number = signHere() - '0';
            place++;
            if (mayHaveTwo && isDigitHere()) {
                number = 10 * number + signHere() - '0';
                place++;
            }
            return number;
        }
    }

    /** A TAPE: items of any sort are kept as longs that were cut to their sort. */
    private static final class Tape {
        final long[] items = new long[MOST_ITEMS];
        int sort = NONE;
        int length;

        boolean holdsNothing() {
            return sort == NONE;
        }

        boolean has(int i) {
            return i >= 0 && i < length;
        }

        boolean hasRun(int i, int n) {
            return n >= 0 && i >= 0 && i <= length && n <= length - i;
        }

        void become(int newSort, int n) {
            sort = newSort;
            length = n;
            Arrays.fill(items, 0L);
        }

        long cut(long v) {
            switch (sort) {
                case BYTES:
                    return (byte) v;
                case SHORTS:
                    return (short) v;
                case INTS:
                    return (int) v;
                case BOOLEANS:
                    return v != 0 ? 1 : 0;
                default:
                    return v;
            }
        }
    }
}
