import java.util.Arrays;

/** Envoys who move one stone on a wheel, by a law, each with a secret wish. */
public final class Ambassadors {
    public static final int NONE = -1, BAD = -2, STATE = -3, FULL = -4;
    public static final long NO = -4611686018427387904L;

    private static final int NO_SUCH = -5, NOT_TAKEN = -7;
    private static final int NO_ENVOYS = -103, NO_MOVE = -105, WRONG_CHOICE = -107;
    private static final int FAULT = -100, NONE_SUCH = -1000;
    private static final int NOTHING_THERE = -11, OUTSIDE = -12, OTHER_SORT = -13, SIZE_BELOW_ZERO = -14;

    private static final int MOST_PLACES = 19, MOST_ENVOYS = 5, MOST_MOVES = 60, MOST_TEXTS = 6;
    private static final int TAPE_ROOM = 160, SHEETS = 4, SHEET_ROOM = 40, FILM_MOVES = 20;
    private static final int MOST_STEP = 4, REASONS = 4, KINDS = 6, MORES = 10;
    private static final int ALLOWS = 0, WORTH = 1, PRICE = 2;
    private static final long LOT_FACTOR = 48271L, LOT_MODULUS = 2147483647L;
    private static final String FIRST_LAW =
        "allows reason = 3 or not step = 0 ; worth 9 - far ; price 3 ;";

    private final Reader reader = new Reader();
    private final Laws texts = new Laws();
    private final Position now = new Position(texts);
    private final Position thought = new Position(texts);
    private final Position kept = new Position(texts);
    private boolean imageKept;
    private final Moves moves = new Moves();
    private final Sheet[] sheets = new Sheet[SHEETS];
    private int chosenStep;
    private int chosenReason;
    private final int[] forced = new int[MOST_PLACES];
    private final int[] forcedAhead = new int[MOST_PLACES];

    public Ambassadors() {
        for (int i = 0; i < sheets.length; i++) {
            sheets[i] = new Sheet();
        }
        for (int i = 0; i < FIRST_LAW.length(); i++) {
            reader.add(FIRST_LAW.charAt(i));
        }
        if (reader.readsText()) {
            texts.add(reader.madeText());
        }
        reader.clear();
    }

    // ---- the wheel, the law

    public int count(int what) {
        switch (what) {
            case 0: return now.envoys;
            case 1: return now.places;
            case 2: return now.stone;
            case 3: return now.turn;
            case 4: return now.moves;
            case 5: return texts.size;
            case 6: return now.law;
            case 7: return reader.size;
            default: return BAD;
        }
    }

    public int set(int what, int v) {
        if (what != 0 && what != 1) {
            return NO_SUCH;
        }
        if (what == 1) {
            return now.isPlace(v) ? putStone(v) : NOT_TAKEN;
        }
        if (v < 3 || v > MOST_PLACES) {
            return NOT_TAKEN;
        }
        if (now.moves > 0) {
            return STATE;
        }
        int was = now.places;
        now.places = v;
        now.stone = now.onWheel(now.stone);
        return was;
    }

    private int putStone(int place) {
        int was = now.stone;
        now.stone = place;
        return was;
    }

    public int feed(int n, int a, int b, int c, int d, int e) {
        boolean bytes = isByte(a) && isByte(b) && isByte(c) && isByte(d) && isByte(e);
        if (n < 1 || n > 5 || !bytes) {
            return BAD;
        }
        if (reader.size + n > TAPE_ROOM) {
            return FULL;
        }
        for (int i = 0; i < n; i++) {
            reader.add(i == 0 ? a : i == 1 ? b : i == 2 ? c : i == 3 ? d : e);
        }
        return reader.size;
    }

    private static boolean isByte(int v) {
        return v >= 0 && v <= 255;
    }

    public int text() {
        if (texts.size >= MOST_TEXTS) {
            return FULL;
        }
        int answer;
        if (reader.readsText()) {
            answer = texts.size;
            texts.add(reader.madeText());
        } else {
            answer = FAULT - reader.tokenAt;
        }
        reader.clear();
        return answer;
    }

    public int force(int t) {
        if (!texts.has(t)) {
            return BAD;
        }
        int was = now.law;
        now.law = t;
        return was;
    }

    public int asks(int part, int e, int reasonStep, int at) {
        if (part < ALLOWS || part > PRICE || !now.isEnvoy(e) || !now.isPlace(at)) {
            return NONE_SUCH;
        }
        if (reasonStep < 0 || reasonStep / 10 >= REASONS || reasonStep % 10 > 2 * MOST_STEP) {
            return NONE_SUCH;
        }
        return now.says(part, e, reasonStep / 10, reasonStep % 10 - MOST_STEP, at);
    }

    // ---- envoys

    public int envoy(int kind, int more) {
        if (kind < 0 || kind >= KINDS || more < 0 || more >= MORES) {
            return BAD;
        }
        if (now.moves > 0) {
            return STATE;
        }
        if (now.envoys >= MOST_ENVOYS) {
            return FULL;
        }
        now.welcome(kind, more);
        return now.envoys - 1;
    }

    public int hope(int e, int w) {
        if (!now.isEnvoy(e)) {
            return NO_SUCH;
        }
        if (!now.isEnvoy(w) || (w == e && now.envoys > 1)) {
            return NOT_TAKEN;
        }
        int was = now.wish[e];
        now.wish[e] = w;
        return was;
    }

    public int told(int e, int what) {
        if (!now.isEnvoy(e)) {
            return NO_SUCH;
        }
        switch (what) {
            case 0: return now.kind[e];
            case 1: return now.more[e];
            case 2: return now.wish[e];
            case 3: return now.last[e];
            case 4: return Kind.farAtMost(now.kind[e], now.more[e]);
            case 5: return now.shown[e] ? 1 : 0;
            case 6: return now.home(e);
            default: return NOT_TAKEN;
        }
    }

    public int winner(int at) {
        return now.isPlace(at) ? now.winnerOn(at) : BAD;
    }

    // ---- moves

    public int next() {
        return now.mover();
    }

    public int steps() {
        return now.stepMask(now.mover());
    }

    public int move(int step, int reason) {
        if (!isStep(step) || !isReason(reason)) {
            return NOT_TAKEN;
        }
        int e = now.mover();
        if (!now.isEnvoy(e)) {
            return STATE;
        }
        int k = now.moves;
        if (k < 0 || k >= MOST_MOVES) {
            return FULL;
        }
        moves.who[k] = e;
        moves.step[k] = step;
        moves.reason[k] = reason;
        moves.breaks[k] = !now.mayGo(e, step);
        moves.ahead[k] = now.stone;
        now.takeTurn(step, reason);
        moves.behind[k] = now.stone;
        now.moves = k + 1;
        return now.stone;
    }

    private static boolean isStep(int v) {
        return v >= -MOST_STEP && v <= MOST_STEP;
    }

    private static boolean isReason(int v) {
        return v >= 0 && v < REASONS;
    }

    public int moved(int k, int what) {
        if (!isMove(k)) {
            return NO_MOVE;
        }
        switch (what) {
            case 0: return moves.who[k];
            case 1: return moves.step[k];
            case 2: return moves.reason[k];
            case 3: return moves.ahead[k];
            case 4: return moves.breaks[k] ? 1 : 0;
            default: return WRONG_CHOICE;
        }
    }

    private boolean isMove(int k) {
        return k >= 0 && k < now.moves && k < MOST_MOVES;
    }

    public int broken(int e, int from) {
        if (e != -1 && !now.isEnvoy(e)) {
            return NO_SUCH;
        }
        if (from < 0 || from > MOST_MOVES) {
            return NOT_TAKEN;
        }
        for (int k = from; k < now.moves && k < MOST_MOVES; k++) {
            if (moves.breaks[k] && (e == -1 || moves.who[k] == e)) {
                return k;
            }
        }
        return -1;
    }

    // ---- wishes, calls

    public int may(int e) {
        if (!now.isEnvoy(e)) {
            return NO_SUCH;
        }
        if (now.shown[e]) {
            return 1 << now.wish[e];
        }
        int wishes = 0;
        for (int w = 0; w < now.envoys; w++) {
            if ((w != e || now.envoys == 1) && !wasEverAgainst(e, w)) {
                wishes |= 1 << w;
            }
        }
        return wishes;
    }

    private boolean wasEverAgainst(int e, int w) {
        for (int k = 0; k < now.moves && k < MOST_MOVES; k++) {
            if (moves.who[k] == e && wasAgainst(k, w)) {
                return true;
            }
        }
        return false;
    }

    private boolean wasAgainst(int k, int w) {
        if (!isMove(k)) {
            return false;
        }
        int home = now.home(w);
        return now.apart(moves.behind[k], home) > now.apart(moves.ahead[k], home);
    }

    private int lastMoveOf(int e) {
        int last = -1;
        for (int k = 0; k < now.moves && k < MOST_MOVES; k++) {
            if (moves.who[k] == e) {
                last = k;
            }
        }
        return last;
    }

    public int call(int e, int other) {
        if (!areTwo(e, other)) {
            return NO_SUCH;
        }
        int k = lastMoveOf(other);
        if (k < 0) {
            return STATE;
        }
        int whose = wasAgainst(k, now.wish[other]) ? other : e;
        now.shown[whose] = true;
        return whose;
    }

    private boolean areTwo(int e, int other) {
        return now.isEnvoy(e) && now.isEnvoy(other) && e != other;
    }

    public long worth(int e, int other, int part) {
        if (!areTwo(e, other) || !isPart(part)) {
            return NO;
        }
        int k = lastMoveOf(other);
        if (!isMove(k)) {
            return NO;
        }
        int more = 0;
        for (int w = 0; w < now.envoys; w++) {
            if (w != other) {
                more += wasAgainst(k, w) ? 1 : -1;
            }
        }
        long price = now.says(PRICE, e, moves.reason[k], moves.step[k], now.stone);
        return lowest(more * price, now.envoys - 1, part);
    }

    private static boolean isPart(int part) {
        return part == 0 || part == 1;
    }

    private static long lowest(long above, long below, int part) {
        long a = Math.abs(above);
        long b = below;
        for (int i = 0; i < 100 && b != 0; i++) {
            long rest = a % b;
            a = b;
            b = rest;
        }
        if (a == 0) {
            return NO;
        }
        return part == 0 ? above / a : below / a;
    }

    // ---- from the last turn back

    public int best(int turns, int what) {
        if (turns < 1 || turns > 3 || what < 0 || what > 2) {
            return WRONG_CHOICE;
        }
        if (now.envoys < 1) {
            return NO_ENVOYS;
        }
        thought.become(now);
        int end = comesOf(turns);
        return what == 0 ? end : what == 1 ? chosenStep : chosenReason;
    }

    /** Where the stone ends, so many turns yet; the move that is taken first is chosen. */
    private int comesOf(int turns) {
        int e = thought.mover();
        if (turns < 1 || !thought.isEnvoy(e)) {
            return thought.stone;
        }
        int mask = thought.stepMask(e);
        int last = Math.max(0, thought.last[e]);
        // A reason given now binds nobody within the turns yet, unless its giver has another turn.
        int reasons = turns > thought.envoys ? REASONS : 1;
        int end = -1;
        int most = 0;
        int step = 0;
        int reason = 3;
        for (int s = -MOST_STEP; s <= MOST_STEP; s++) {
            for (int r = 0; r < reasons && hasStep(mask, s); r++) {
                int comes = comesOfMove(s, r, turns);
                int worth = thought.says(WORTH, e, last, 0, comes);
                if (end < 0 || worth > most) {
                    end = comes;
                    most = worth;
                    step = s;
                    reason = r;
                }
            }
        }
        if (end < 0) {
            end = comesOfMove(step, reason, turns);
        }
        chosenStep = step;
        chosenReason = reason;
        return end;
    }

    private int comesOfMove(int step, int reason, int turns) {
        int e = thought.mover();
        if (!thought.isEnvoy(e)) {
            return thought.stone;
        }
        int stone = thought.stone;
        int last = thought.last[e];
        thought.takeTurn(step, reason);
        int end = comesOf(turns - 1);
        thought.turn = thought.turn - 1;
        thought.stone = stone;
        thought.last[e] = last;
        return end;
    }

    public int canForce(int some, int at, int turns) {
        if (!areEnvoys(some) || !now.isPlace(at) || turns < 0 || turns > 4) {
            return BAD;
        }
        return now.envoys < 1 ? STATE : forcedPlaces(some, turns) >> at & 1;
    }

    public int reach(int some, int turns) {
        if (!areEnvoys(some) || turns < 0 || turns > 4) {
            return BAD;
        }
        return now.envoys < 1 ? STATE : forcedPlaces(some, turns);
    }

    private boolean areEnvoys(int some) {
        return some >= 0 && some < 1 << now.envoys;
    }

    /** Reasons stay as they are, so what can be forced hangs on place and turn alone. */
    private int forcedPlaces(int some, int turns) {
        thought.become(now);
        for (int p = 0; p < MOST_PLACES; p++) {
            forced[p] = 1 << p;
        }
        for (int ahead = turns - 1; ahead >= 0; ahead--) {
            thought.turn = now.turn + ahead;
            int e = thought.mover();
            boolean oneOfSome = e >= 0 && (some >> e & 1) == 1;
            for (int p = 0; p < now.places && p < MOST_PLACES; p++) {
                thought.stone = p;
                int mask = thought.stepMask(e);
                forcedAhead[p] = mask == 0 ? forced[p] : forcedBySteps(mask, oneOfSome);
            }
            System.arraycopy(forcedAhead, 0, forced, 0, MOST_PLACES);
        }
        return now.stone >= 0 && now.stone < MOST_PLACES ? forced[now.stone] : 0;
    }

    /** One of some needs one step that leads on, all others must be led on by every step. */
    private int forcedBySteps(int mask, boolean oneOfSome) {
        int places = oneOfSome ? 0 : -1;
        for (int step = -MOST_STEP; step <= MOST_STEP; step++) {
            int to = thought.landing(step);
            if (hasStep(mask, step) && to >= 0 && to < MOST_PLACES) {
                places = oneOfSome ? places | forced[to] : places & forced[to];
            }
        }
        return places;
    }

    private static boolean hasStep(int mask, int step) {
        return (mask >> step + MOST_STEP & 1) == 1;
    }

    public int loosest(int e, int what) {
        if (!now.isEnvoy(e)) {
            return NO_SUCH;
        }
        if (what != 0 && what != 1) {
            return NOT_TAKEN;
        }
        thought.become(now);
        int loose = 0;
        int most = -1;
        for (int reason = 0; reason < REASONS; reason++) {
            thought.last[e] = reason;
            int many = Integer.bitCount(thought.stepMask(e));
            if (many > most) {
                loose = reason;
                most = many;
            }
        }
        return what == 0 ? loose : most;
    }

    public int deals(int many, int what) {
        if (many < 0 || many > 5 || (what != 0 && what != 1)) {
            return BAD;
        }
        if (now.envoys < 2) {
            return STATE;
        }
        return what == 0 ? dealsWith(many, now.envoys) : power(now.envoys - 1, now.envoys);
    }

    /** The winner can't wish itself: the others alone can, each in one way. */
    private static int dealsWith(int many, int envoys) {
        int others = envoys - 1;
        if (many > others) {
            return 0;
        }
        int ways = others;
        for (int i = 1; i <= many; i++) {
            ways = ways * (others - i + 1) / i;
        }
        return ways * power(envoys - 2, others - many);
    }

    private static int power(int base, int times) {
        int product = 1;
        for (int i = 0; i < times; i++) {
            product *= base;
        }
        return product;
    }

    // ---- told games

    public int judge(int s) {
        int refusal = refusalOfTold(s);
        return refusal != 0 ? refusal : judgeNow(s);
    }

    private int judgeNow(int s) {
        thought.become(now);
        return playTold(s);
    }

    /** 0, if a sheet tells moves. */
    private int refusalOfTold(int s) {
        if (!isSheet(s)) {
            return BAD;
        }
        if (sheets[s].isMissing()) {
            return NOTHING_THERE;
        }
        if (!tellsMoves(sheets[s])) {
            return BAD;
        }
        return now.envoys < 1 ? STATE : 0;
    }

    private boolean isSheet(int s) {
        return s >= 0 && s < sheets.length && sheets[s] != null;
    }

    private static boolean tellsMoves(Sheet sheet) {
        for (int i = 0; i < sheet.size && i < SHEET_ROOM; i++) {
            int v = sheet.numbers[i];
            if (i % 2 == 0 ? !isStep(v) : !isReason(v)) {
                return false;
            }
        }
        return sheet.size % 2 == 0;
    }

    /** Plays a sheet on from what is thought: the first move that may not be, -1: none. */
    private int playTold(int s) {
        if (!isSheet(s)) {
            return -1;
        }
        Sheet sheet = sheets[s];
        int first = -1;
        for (int i = 0; i + 1 < sheet.size && i + 1 < SHEET_ROOM; i += 2) {
            int step = sheet.numbers[i];
            if (first < 0 && !thought.mayGo(thought.mover(), step)) {
                first = i / 2;
            }
            thought.takeTurn(step, sheet.numbers[i + 1]);
        }
        return first;
    }

    public int end(int s, int what) {
        int refusal = refusalOfTold(s);
        if (refusal != 0) {
            return refusal;
        }
        if (what < 0 || what > 2) {
            return NOT_TAKEN;
        }
        judgeNow(s);
        return outcome(what);
    }

    private int outcome(int what) {
        int best = thought.winnerOn(thought.stone);
        return what == 0 ? thought.stone : what == 1 ? best : thought.wishersOf(best);
    }

    public int kinds(int s, int e, int sort) {
        int refusal = refusalOfTold(s);
        if (refusal != 0) {
            return refusal;
        }
        if (!now.isEnvoy(e)) {
            return NO_SUCH;
        }
        if (sort != 0 && sort != 1) {
            return NOT_TAKEN;
        }
        int found = 0;
        for (int v = 0; v < (sort == 0 ? KINDS : MORES); v++) {
            thought.become(now);
            if (sort == 0) {
                thought.kind[e] = v;
            } else {
                thought.more[e] = v;
            }
            found |= playTold(s) < 0 ? 1 << v : 0;
        }
        return found;
    }

    public int starts(int s, int what) {
        int refusal = refusalOfTold(s);
        if (refusal != 0) {
            return refusal;
        }
        if (what < 0 || !now.isPlace(what / 100) || what % 100 > 1) {
            return NOT_TAKEN;
        }
        int found = 0;
        for (int p = 0; p < now.places; p++) {
            thought.become(now);
            thought.stone = p;
            int first = playTold(s);
            boolean fits = what % 100 == 0 ? first < 0 : thought.stone == what / 100;
            found |= fits ? 1 << p : 0;
        }
        return found;
    }

    public int laws(int s) {
        int refusal = refusalOfTold(s);
        if (refusal != 0) {
            return refusal;
        }
        int found = 0;
        for (int t = 0; t < texts.size; t++) {
            thought.become(now);
            thought.law = t;
            found |= playTold(s) < 0 ? 1 << t : 0;
        }
        return found;
    }

    public int film(int s, int from) {
        if (!isSheet(s) || from < 0 || from > MOST_MOVES) {
            return BAD;
        }
        int many = Math.max(0, Math.min(FILM_MOVES, now.moves - from));
        sheets[s].lay(0, 2 * many);
        for (int i = 0; i < many && isMove(from + i); i++) {
            sheets[s].put(2 * i, moves.step[from + i]);
            sheets[s].put(2 * i + 1, moves.reason[from + i]);
        }
        return many;
    }

    // ---- games by lots

    public int drawn(int seed, int n, int what) {
        if (!isSeed(seed) || n < 0 || n > 40 || what < 0 || what > 2) {
            return BAD;
        }
        if (now.envoys < 1) {
            return STATE;
        }
        playByLots(seed, n);
        return outcome(what);
    }

    private static boolean isSeed(int seed) {
        return seed >= 0 && seed <= 99999;
    }

    private void playByLots(int seed, int n) {
        thought.become(now);
        long lot = seed + 1L;
        for (int i = 0; i < n; i++) {
            lot = lot * LOT_FACTOR % LOT_MODULUS;
            int mask = thought.stepMask(thought.mover());
            thought.takeTurn(stepByLot(mask, lot), (int) (lot / 16 % REASONS));
        }
    }

    private static int stepByLot(int mask, long lot) {
        int many = Integer.bitCount(mask);
        if (many < 1) {
            return 0;
        }
        long ahead = lot % many;
        for (int step = -MOST_STEP; step <= MOST_STEP; step++) {
            if (hasStep(mask, step)) {
                if (ahead == 0) {
                    return step;
                }
                ahead--;
            }
        }
        return 0;
    }

    public long odds(int seed, int movesSeeds, int e, int part) {
        int seeds = movesSeeds % 100;
        boolean counts = movesSeeds >= 0 && movesSeeds / 100 <= 40 && seeds >= 1 && seeds <= 50;
        if (!isSeed(seed) || !counts || !now.isEnvoy(e) || !isPart(part)) {
            return NO;
        }
        int wins = 0;
        for (int i = 0; i < seeds; i++) {
            playByLots(seed + i, movesSeeds / 100);
            wins += thought.winnerOn(thought.stone) == now.wish[e] ? 1 : 0;
        }
        return lowest(wins, seeds, part);
    }

    public int image() {
        kept.become(now);
        imageKept = true;
        return now.envoys;
    }

    /** Moves come behind those of the image and none is changed, so their number is enough. */
    public int back() {
        if (!imageKept) {
            return STATE;
        }
        now.become(kept);
        return now.envoys;
    }

    // ---- the host

    public int sheet(int s, int sort, int n) {
        if (!isSheet(s) || sort < Sheet.MISSING || sort > Sheet.INTS) {
            return BAD;
        }
        if (sort == Sheet.MISSING) {
            sheets[s].lay(sort, 0);
            return 1;
        }
        if (n > SHEET_ROOM) {
            return BAD;
        }
        if (n < 0) {
            return SIZE_BELOW_ZERO;
        }
        sheets[s].lay(sort, n);
        return 1;
    }

    public int cell(int s, int i, int v) {
        if (!isSheet(s)) {
            return BAD;
        }
        if (sheets[s].isMissing()) {
            return NOTHING_THERE;
        }
        if (!sheets[s].has(i)) {
            return OUTSIDE;
        }
        sheets[s].put(i, v);
        return 1;
    }

    public int copy(int s, int i, int other, int j, int n) {
        if (!isSheet(s) || !isSheet(other)) {
            return BAD;
        }
        Sheet from = sheets[s];
        Sheet to = sheets[other];
        if (from.isMissing() || to.isMissing()) {
            return NOTHING_THERE;
        }
        if (from.sort != to.sort) {
            return OTHER_SORT;
        }
        if (!from.hasRow(i, n) || !to.hasRow(j, n)) {
            return OUTSIDE;
        }
        System.arraycopy(from.numbers, i, to.numbers, j, n);
        return n;
    }

    public int envoysBy(int s, int sort, int at, int n) {
        if (!isSheet(s) || sort < Sheet.BYTES || sort > Sheet.INTS || n < 0 || n > MOST_ENVOYS) {
            return BAD;
        }
        Sheet sheet = sheets[s];
        if (sheet.isMissing()) {
            return NOTHING_THERE;
        }
        if (sheet.sort != sort) {
            return OTHER_SORT;
        }
        int came = 0;
        for (int k = 0; k < n; k++) {
            int i = at + 2 * k;
            if (!sheet.has(i) || !sheet.has(i + 1)) {
                return OUTSIDE;
            }
            came += envoy(sheet.numbers[i], sheet.numbers[i + 1]) >= 0 ? 1 : 0;
        }
        return came;
    }

    public int taken(int i, int kind) {
        if (kind < 0 || kind > KINDS) {
            return BAD;
        }
        if (i < 0 || i >= MOST_ENVOYS + MOST_MOVES) {
            return OUTSIDE;
        }
        if (i >= MOST_ENVOYS) {
            int k = i - MOST_ENVOYS;
            if (!isMove(k)) {
                return NOTHING_THERE;
            }
            return kind == KINDS ? moves.step[k] : OTHER_SORT;
        }
        if (!now.isEnvoy(i)) {
            return NOTHING_THERE;
        }
        return kind < KINDS && Kind.isA(now.kind[i], kind) ? i : OTHER_SORT;
    }

    /** What the kinds have of their own, and what of the kind above. */
    private static final class Kind {
        private static final int ENVOY = 0, BOLD = 1, SLY = 2, RASH = 3, OLD = 4, SHY = 5;

        private static boolean isA(int kind, int above) {
            return kind == above || above == ENVOY
                || (above == BOLD && kind == RASH) || (above == SLY && kind == OLD);
        }

        private static int farAtMost(int kind, int more) {
            if (isA(kind, BOLD)) {
                return 3 + more / 9;
            }
            return kind == OLD || kind == SHY ? 1 : 2;
        }

        private static boolean mayStay(int kind) {
            return kind != RASH;
        }

        private static boolean isBound(int kind, int more, int reason) {
            if (kind == OLD && (more >= 5 || reason <= 1)) {
                return false;
            }
            return !isA(kind, SLY) || reason != more % 4;
        }
    }

    /** How all stands: truly, in thought, or in the image. */
    private static final class Position {
        private final Laws laws;
        private int places = MOST_PLACES;
        private int stone;
        private int turn;
        private int moves;
        private int envoys;
        private int law;
        private final int[] kind = new int[MOST_ENVOYS];
        private final int[] more = new int[MOST_ENVOYS];
        private final int[] wish = new int[MOST_ENVOYS];
        private final int[] last = new int[MOST_ENVOYS];
        private final boolean[] shown = new boolean[MOST_ENVOYS];

        private Position(Laws laws) {
            this.laws = laws;
        }

        private void become(Position other) {
            places = other.places;
            stone = other.stone;
            turn = other.turn;
            moves = other.moves;
            envoys = other.envoys;
            law = other.law;
            for (int e = 0; e < MOST_ENVOYS; e++) {
                kind[e] = other.kind[e];
                more[e] = other.more[e];
                wish[e] = other.wish[e];
                last[e] = other.last[e];
                shown[e] = other.shown[e];
            }
        }

        private void welcome(int itsKind, int itsMore) {
            int e = envoys;
            if (e < 0 || e >= MOST_ENVOYS) {
                return;
            }
            if (e > 0 && wish[e - 1] == 0) {
                wish[e - 1] = e;
            }
            kind[e] = itsKind;
            more[e] = itsMore;
            wish[e] = 0;
            last[e] = -1;
            shown[e] = false;
            envoys = e + 1;
        }

        private boolean isPlace(int p) {
            return p >= 0 && p < places;
        }

        private boolean isEnvoy(int e) {
            return e >= 0 && e < envoys && e < MOST_ENVOYS;
        }

        private int mover() {
            return envoys < 1 ? -1 : Math.floorMod(turn, envoys);
        }

        private int onWheel(int place) {
            return places < 1 ? 0 : Math.floorMod(place, places);
        }

        private int home(int e) {
            return envoys < 1 ? 0 : e * places / envoys;
        }

        private int apart(int a, int b) {
            int right = onWheel(a - b);
            return Math.min(right, places - right);
        }

        private int landing(int step) {
            return onWheel(turn % 3 == 2 ? stone - step : stone + step);
        }

        private int winnerOn(int place) {
            int nearest = NONE;
            for (int e = 0; e < envoys; e++) {
                if (nearest < 0 || apart(home(e), place) < apart(home(nearest), place)) {
                    nearest = e;
                }
            }
            return nearest;
        }

        private int wishersOf(int w) {
            int many = 0;
            for (int e = 0; e < envoys && e < MOST_ENVOYS; e++) {
                many += wish[e] == w ? 1 : 0;
            }
            return many;
        }

        private boolean mayGo(int e, int step) {
            if (!isEnvoy(e)) {
                return false;
            }
            int far = Kind.farAtMost(kind[e], more[e]);
            if (step < -far || step > far || (step == 0 && !Kind.mayStay(kind[e]))) {
                return false;
            }
            int reason = last[e];
            if (reason < 0 || !Kind.isBound(kind[e], more[e], reason)) {
                return true;
            }
            return says(ALLOWS, e, reason, step, stone) != 0;
        }

        /** Bits, 4 more than each step: none, if there is no such envoy. */
        private int stepMask(int e) {
            int mask = 0;
            for (int step = -MOST_STEP; step <= MOST_STEP; step++) {
                mask |= mayGo(e, step) ? 1 << step + MOST_STEP : 0;
            }
            return mask;
        }

        private void takeTurn(int step, int reason) {
            int e = mover();
            if (!isEnvoy(e)) {
                return;
            }
            stone = landing(step);
            last[e] = reason;
            turn = turn + 1;
        }

        private int says(int part, int e, int reason, int step, int place) {
            if (!isEnvoy(e)) {
                return 0;
            }
            laws.reason = reason;
            laws.step = step;
            laws.stone = place;
            laws.more = more[e];
            laws.far = apart(place, home(wish[e]));
            laws.turn = turn;
            int value = laws.reckon(law, part);
            if (part == ALLOWS) {
                return value == 0 ? 0 : 1;
            }
            return Math.max(-99, Math.min(99, value));
        }
    }

    /** The moves that were truly made, a row for each thing that is kept of them. */
    private static final class Moves {
        private final int[] who = new int[MOST_MOVES];
        private final int[] step = new int[MOST_MOVES];
        private final int[] reason = new int[MOST_MOVES];
        private final int[] ahead = new int[MOST_MOVES];
        private final int[] behind = new int[MOST_MOVES];
        private final boolean[] breaks = new boolean[MOST_MOVES];
    }

    /** A row of numbers of a sort; the room is kept while it is missing. */
    private static final class Sheet {
        private static final int MISSING = -1, BYTES = 0, SHORTS = 1, INTS = 2;

        private int sort = MISSING;
        private int size;
        private final int[] numbers = new int[SHEET_ROOM];

        private boolean isMissing() {
            return sort == MISSING;
        }

        private void lay(int newSort, int newSize) {
            sort = newSort;
            size = newSize;
            Arrays.fill(numbers, 0);
        }

        private boolean has(int i) {
            return i >= 0 && i < size && i < SHEET_ROOM;
        }

        private boolean hasRow(int i, int n) {
            return i >= 0 && n >= 0 && n <= size && i <= size - n;
        }

        private void put(int i, int v) {
            if (has(i)) {
                numbers[i] = sort == BYTES ? (byte) v : sort == SHORTS ? (short) v : v;
            }
        }
    }

    /** What a token is, or what a text's row has: a number is itself, what is below 0 a sign. */
    private static final class Sign {
        private static final int REASON = -1, STEP = -2, STONE = -3, MORE = -4, FAR = -5, TURN = -6;
        private static final int OR = -7, AND = -8, LESS = -9, EQUAL = -10, PLUS = -11, MINUS = -12;
        private static final int TIMES = -13, NOT = -14, NEGATE = -15, STOP = -16;
        private static final int NUMBER = 1, OPEN = 2, CLOSE = 3, SEMICOLON = 4, END = 5, WRONG = 6;
        private static final int FIRST_KEY = 10;
    }

    /** A text, its signs in the order in which they are reckoned, each part up to a STOP. */
    private static final class Text {
        private final int[] signs;
        private final int[] starts;

        private Text(int[] signs, int[] starts) {
            this.signs = signs;
            this.starts = starts;
        }
    }

    /** The texts, and what is named while one of them is asked. */
    private static final class Laws {
        private static final int OPEN_AT_ONCE = 64;

        private final Text[] rows = new Text[MOST_TEXTS];
        private int size;
        private final int[] values = new int[OPEN_AT_ONCE];
        private int reason;
        private int step;
        private int stone;
        private int more;
        private int far;
        private int turn;

        private boolean has(int t) {
            return t >= 0 && t < size && t < MOST_TEXTS && rows[t] != null;
        }

        private void add(Text text) {
            if (size >= 0 && size < MOST_TEXTS) {
                rows[size] = text;
                size = size + 1;
            }
        }

        private int reckon(int t, int part) {
            if (!has(t) || part < 0 || part >= rows[t].starts.length) {
                return 0;
            }
            int[] signs = rows[t].signs;
            int top = 0;
            for (int i = rows[t].starts[part]; i >= 0 && i < signs.length; i++) {
                int sign = signs[i];
                if (sign == Sign.STOP) {
                    break;
                }
                if (sign >= Sign.TURN) {
                    if (top < OPEN_AT_ONCE) {
                        values[top++] = sign >= 0 ? sign : named(sign);
                    }
                } else if (sign == Sign.NOT || sign == Sign.NEGATE) {
                    if (top > 0) {
                        values[top - 1] = ofOne(sign, values[top - 1]);
                    }
                } else if (top > 1) {
                    top--;
                    values[top - 1] = ofTwo(sign, values[top - 1], values[top]);
                }
            }
            return values[0];
        }

        private int named(int sign) {
            switch (sign) {
                case Sign.REASON: return reason;
                case Sign.STEP: return step;
                case Sign.STONE: return stone;
                case Sign.MORE: return more;
                case Sign.FAR: return far;
                default: return turn;
            }
        }

        private static int ofOne(int sign, int a) {
            if (sign == Sign.NEGATE) {
                return -a;
            }
            return a == 0 ? 1 : 0;
        }

        private static int ofTwo(int sign, int a, int b) {
            switch (sign) {
                case Sign.OR: return a != 0 || b != 0 ? 1 : 0;
                case Sign.AND: return a != 0 && b != 0 ? 1 : 0;
                case Sign.LESS: return a < b ? 1 : 0;
                case Sign.EQUAL: return a == b ? 1 : 0;
                case Sign.PLUS: return a + b;
                case Sign.MINUS: return a - b;
                default: return a * b;
            }
        }
    }

    /** The tape, and how a text is read from it: whatever fails, fails at the token that stands next. */
    private static final class Reader {
        private static final int MOST_OPEN = 5, MOST_DIGITS = 4, PARTS = 3;

        private final int[] tape = new int[TAPE_ROOM];
        private int size;
        private int tokenAt;
        private int tokenEnd;
        private int token;
        private int number;
        private final int[] made = new int[TAPE_ROOM];
        private int madeSize;
        private final int[] starts = new int[PARTS];

        private void add(int letter) {
            if (size >= 0 && size < TAPE_ROOM) {
                tape[size++] = letter;
            }
        }

        private void clear() {
            size = 0;
        }

        private Text madeText() {
            return new Text(Arrays.copyOf(made, Math.max(0, madeSize)), starts.clone());
        }

        private boolean readsText() {
            madeSize = 0;
            tokenEnd = 0;
            advance();
            for (int part = 0; part < PARTS; part++) {
                if (token != Sign.FIRST_KEY + part) {
                    return false;
                }
                advance();
                starts[part] = madeSize;
                if (!readsOr(0) || token != Sign.SEMICOLON) {
                    return false;
                }
                make(Sign.STOP);
                advance();
            }
            return token == Sign.END;
        }

        private void make(int sign) {
            if (madeSize >= 0 && madeSize < TAPE_ROOM) {
                made[madeSize++] = sign;
            }
        }

        private boolean readsOr(int open) {
            boolean good = readsAnd(open);
            for (int i = 0; i < size && good && token == Sign.OR; i++) {
                advance();
                good = readsAnd(open);
                make(Sign.OR);
            }
            return good;
        }

        private boolean readsAnd(int open) {
            boolean good = readsNot(open);
            for (int i = 0; i < size && good && token == Sign.AND; i++) {
                advance();
                good = readsNot(open);
                make(Sign.AND);
            }
            return good;
        }

        private boolean readsNot(int open) {
            if (token != Sign.NOT) {
                return readsComparison(open);
            }
            if (open >= MOST_OPEN) {
                return false;
            }
            advance();
            boolean good = readsNot(open + 1);
            make(Sign.NOT);
            return good;
        }

        private boolean readsComparison(int open) {
            boolean good = readsSum(open);
            int sign = token;
            if (!good || (sign != Sign.LESS && sign != Sign.EQUAL)) {
                return good;
            }
            advance();
            good = readsSum(open);
            make(sign);
            return good;
        }

        private boolean readsSum(int open) {
            boolean good = readsTerm(open);
            for (int i = 0; i < size && good && (token == Sign.PLUS || token == Sign.MINUS); i++) {
                int sign = token;
                advance();
                good = readsTerm(open);
                make(sign);
            }
            return good;
        }

        private boolean readsTerm(int open) {
            boolean good = readsOne(open);
            for (int i = 0; i < size && good && token == Sign.TIMES; i++) {
                advance();
                good = readsOne(open);
                make(Sign.TIMES);
            }
            return good;
        }

        private boolean readsOne(int open) {
            boolean named = token <= Sign.REASON && token >= Sign.TURN;
            if (named || token == Sign.NUMBER) {
                make(named ? token : number);
                advance();
                return true;
            }
            if (open >= MOST_OPEN) {
                return false;
            }
            if (token == Sign.MINUS) {
                advance();
                boolean good = readsOne(open + 1);
                make(Sign.NEGATE);
                return good;
            }
            if (token != Sign.OPEN) {
                return false;
            }
            advance();
            if (!readsOr(open + 1) || token != Sign.CLOSE) {
                return false;
            }
            advance();
            return true;
        }

        private void advance() {
            tokenAt = tokenEnd;
            while (tokenAt < size && (letterAt(tokenAt) == ' ' || letterAt(tokenAt) == '\n')) {
                tokenAt++;
            }
            int first = letterAt(tokenAt);
            tokenEnd = tokenAt + 1;
            if (first < 0) {
                tokenEnd = tokenAt;
                token = Sign.END;
            } else if (isLetter(first)) {
                readWord();
            } else if (isDigit(first)) {
                readNumber();
            } else {
                token = signOf(first);
            }
        }

        /** -1 outside, which is neither letter nor digit. */
        private int letterAt(int i) {
            return i >= 0 && i < size && i < TAPE_ROOM ? tape[i] : -1;
        }

        private static boolean isLetter(int letter) {
            return letter >= 'a' && letter <= 'z';
        }

        private static boolean isDigit(int letter) {
            return letter >= '0' && letter <= '9';
        }

        private void readNumber() {
            number = 0;
            int i = tokenAt;
            while (i < size && isDigit(letterAt(i))) {
                number = number * 10 + letterAt(i) - '0';
                i++;
            }
            tokenEnd = i;
            token = tokenEnd - tokenAt > MOST_DIGITS ? Sign.WRONG : Sign.NUMBER;
        }

        private void readWord() {
            int i = tokenAt;
            while (i < size && isLetter(letterAt(i))) {
                i++;
            }
            tokenEnd = i;
            token = spells("reason") ? Sign.REASON
                : spells("step") ? Sign.STEP
                : spells("stone") ? Sign.STONE
                : spells("more") ? Sign.MORE
                : spells("far") ? Sign.FAR
                : spells("turn") ? Sign.TURN
                : spells("or") ? Sign.OR
                : spells("and") ? Sign.AND
                : spells("not") ? Sign.NOT
                : spells("allows") ? Sign.FIRST_KEY + ALLOWS
                : spells("worth") ? Sign.FIRST_KEY + WORTH
                : spells("price") ? Sign.FIRST_KEY + PRICE
                : Sign.WRONG;
        }

        private boolean spells(String word) {
            if (word.length() != tokenEnd - tokenAt) {
                return false;
            }
            for (int i = 0; i < word.length(); i++) {
                if (letterAt(tokenAt + i) != word.charAt(i)) {
                    return false;
                }
            }
            return true;
        }

        private static int signOf(int letter) {
            switch (letter) {
                case '(': return Sign.OPEN;
                case ')': return Sign.CLOSE;
                case ';': return Sign.SEMICOLON;
                case '+': return Sign.PLUS;
                case '-': return Sign.MINUS;
                case '*': return Sign.TIMES;
                case '<': return Sign.LESS;
                case '=': return Sign.EQUAL;
                default: return Sign.WRONG;
            }
        }
    }
}
