import java.math.BigInteger;
import java.util.ArrayList;
import java.util.Arrays;
import java.util.HashMap;
import java.util.List;
import java.util.Map;

/** The document once more, in its plainest and slowest form, to set the class against. */
final class Model {
    static final long NO = -4611686018427387904L;

    interface Node {
        int of(Map<String, Integer> names);
    }

    static final class Fault extends RuntimeException {
        private static final long serialVersionUID = 1L;
        final int place;

        Fault(int place) {
            super(null, null, false, false);
            this.place = place;
        }
    }

    /** Reads a tape by counting what is open up and down. */
    static final class Parser {
        final String tape;
        int at;
        int start;
        String token;
        int open;

        Parser(String tape) {
            this.tape = tape;
            take();
        }

        /** The next token; "" at the end, "?" for what is none. */
        String take() {
            String was = token;
            while (at < tape.length() && " \n".indexOf(tape.charAt(at)) >= 0) {
                at++;
            }
            start = at;
            if (at == tape.length()) {
                token = "";
                return was;
            }
            String rest = tape.substring(at);
            String word = rest.replaceFirst("(?s)^([a-z]+).*", "$1");
            String digits = rest.replaceFirst("(?s)^([0-9]+).*", "$1");
            if (rest.matches("(?s)[a-z]+.*")) {
                token = word;
                at += word.length();
                if (!List.of("allows", "worth", "price", "or", "and", "not", "reason", "step", "stone", "more", "far",
                    "turn").contains(word)) {
                    token = "?";
                }
            } else if (rest.matches("(?s)[0-9]+.*")) {
                token = digits.length() > 4 ? "?" : digits;
                at += digits.length();
            } else {
                token = "();+-*<=".indexOf(rest.charAt(0)) >= 0 ? rest.substring(0, 1) : "?";
                at++;
            }
            return was;
        }

        void must(String what) {
            if (!token.equals(what)) {
                throw new Fault(start);
            }
            take();
        }

        List<Node> text() {
            List<Node> parts = new ArrayList<>();
            for (String key : List.of("allows", "worth", "price")) {
                must(key);
                parts.add(e());
                must(";");
            }
            if (!token.isEmpty()) {
                throw new Fault(start);
            }
            return parts;
        }

        Node e() {
            List<Node> some = new ArrayList<>(List.of(and()));
            while (token.equals("or")) {
                take();
                some.add(and());
            }
            return some.size() == 1 ? some.get(0) : n -> some.stream().anyMatch(x -> x.of(n) != 0) ? 1 : 0;
        }

        Node and() {
            List<Node> all = new ArrayList<>(List.of(not()));
            while (token.equals("and")) {
                take();
                all.add(not());
            }
            return all.size() == 1 ? all.get(0) : n -> all.stream().allMatch(x -> x.of(n) != 0) ? 1 : 0;
        }

        void opens() {
            if (open == 5) {
                throw new Fault(start);
            }
            open++;
            take();
        }

        Node not() {
            if (token.equals("not")) {
                opens();
                Node inner = not();
                open--;
                return n -> inner.of(n) == 0 ? 1 : 0;
            }
            Node left = sum();
            if (token.equals("<")) {
                take();
                Node right = sum();
                return n -> left.of(n) < right.of(n) ? 1 : 0;
            }
            if (token.equals("=")) {
                take();
                Node right = sum();
                return n -> left.of(n) == right.of(n) ? 1 : 0;
            }
            return left;
        }

        Node sum() {
            Node sum = term();
            while (token.equals("+") || token.equals("-")) {
                boolean plus = take().equals("+");
                Node left = sum;
                Node right = term();
                sum = n -> plus ? left.of(n) + right.of(n) : left.of(n) - right.of(n);
            }
            return sum;
        }

        Node term() {
            Node term = one();
            while (token.equals("*")) {
                take();
                Node left = term;
                Node right = one();
                term = n -> left.of(n) * right.of(n);
            }
            return term;
        }

        Node one() {
            if (token.equals("-")) {
                opens();
                Node inner = one();
                open--;
                return n -> -inner.of(n);
            }
            if (token.equals("(")) {
                opens();
                Node inner = e();
                must(")");
                open--;
                return inner;
            }
            if (token.matches("[0-9]+")) {
                int number = Integer.parseInt(take());
                return n -> number;
            }
            if (List.of("reason", "step", "stone", "more", "far", "turn").contains(token)) {
                String name = take();
                return n -> n.get(name);
            }
            throw new Fault(start);
        }
    }

    record Envoy(int kind, int more, int wish, Integer last, boolean shown) {
        Envoy wishing(int w) {
            return new Envoy(kind, more, w, last, shown);
        }

        Envoy saying(Integer reason) {
            return new Envoy(kind, more, wish, reason, shown);
        }

        Envoy showing() {
            return new Envoy(kind, more, wish, last, true);
        }
    }

    record Move(int who, int step, int reason, int ahead, int behind, boolean breaks) {}

    /** All that may change in thought; it is never changed, but made anew. */
    record State(int places, int stone, int turn, List<Envoy> envoys, List<Move> moves, int law) {
        State at(int place) {
            return new State(places, place, turn, envoys, moves, law);
        }

        State of(int e, Envoy envoy) {
            List<Envoy> others = new ArrayList<>(envoys);
            others.set(e, envoy);
            return new State(places, stone, turn, others, moves, law);
        }

        State by(int text) {
            return new State(places, stone, turn, envoys, moves, text);
        }
    }

    static final class Row {
        final int sort;
        final int[] n;

        Row(int sort, int size) {
            this.sort = sort;
            this.n = new int[size];
        }

        void put(int i, int v) {
            n[i] = sort == 0 ? (byte) v : sort == 1 ? (short) v : v;
        }
    }

    private final List<List<Node>> texts = new ArrayList<>();
    private String tape = "";
    private State now = new State(19, 0, 0, List.of(), List.of(), 0);
    private State kept;
    private final Row[] rows = new Row[4];

    Model() {
        texts.add(new Parser("allows reason = 3 or not step = 0 ; worth 9 - far ; price 3 ;").text());
    }

    // what the terms say

    private static boolean in(int v, int low, int high) {
        return low <= v && v <= high;
    }

    private boolean is(int e) {
        return in(e, 0, now.envoys.size() - 1);
    }

    private static int apart(State s, int a, int b) {
        int steps = 0;
        while (Math.floorMod(a + steps, s.places) != b && Math.floorMod(a - steps, s.places) != b) {
            steps++;
        }
        return steps;
    }

    private static int home(State s, int e) {
        return e * s.places / s.envoys.size();
    }

    private static int mover(State s) {
        return s.envoys.isEmpty() ? -1 : s.turn % s.envoys.size();
    }

    private static int far(Envoy e) {
        switch (e.kind) {
            case 1:
            case 3: return 2 + 1 + e.more / 9;
            case 4: return 2 - 1;
            case 5: return 1;
            default: return 2;
        }
    }

    private static boolean bound(Envoy e, int reason) {
        boolean sly = reason != e.more % 4;
        if (e.kind == 2) {
            return sly;
        }
        if (e.kind == 4) {
            return e.more < 5 && reason > 1 && sly;
        }
        return true;
    }

    private int says(State s, int part, int e, int reason, int step, int place) {
        Map<String, Integer> names = new HashMap<>();
        names.put("reason", reason);
        names.put("step", step);
        names.put("stone", place);
        names.put("more", s.envoys.get(e).more);
        names.put("far", apart(s, place, home(s, s.envoys.get(e).wish)));
        names.put("turn", s.turn);
        int v = texts.get(s.law).get(part).of(names);
        return part == 0 ? (v == 0 ? 0 : 1) : v < -99 ? -99 : v > 99 ? 99 : v;
    }

    private boolean mayGo(State s, int who, int step) {
        Envoy e = s.envoys.get(who);
        if (Math.abs(step) > far(e)) {
            return false;
        }
        if (step == 0 && e.kind == 3) {
            return false;
        }
        if (e.last != null && bound(e, e.last)) {
            return says(s, 0, who, e.last, step, s.stone) == 1;
        }
        return true;
    }

    private List<Integer> free(State s, int e) {
        List<Integer> free = new ArrayList<>();
        for (int step = -4; step <= 4; step++) {
            if (mayGo(s, e, step)) {
                free.add(step);
            }
        }
        return free;
    }

    private static int going(State s, int step) {
        int right = s.turn % 3 == 2 ? -step : step;
        return ((s.stone + right) % s.places + s.places) % s.places;
    }

    private static State moving(State s, int step, int reason) {
        int e = mover(s);
        State t = s.of(e, s.envoys.get(e).saying(reason));
        return new State(t.places, going(s, step), t.turn + 1, t.envoys, t.moves, t.law);
    }

    private static int winnerOf(State s, int place) {
        int best = 0;
        for (int e = 1; e < s.envoys.size(); e++) {
            if (apart(s, home(s, e), place) < apart(s, home(s, best), place)) {
                best = e;
            }
        }
        return best;
    }

    private static int wishing(State s, int w) {
        return (int) s.envoys.stream().filter(e -> e.wish == w).count();
    }

    private boolean against(Move m, int w) {
        return apart(now, m.behind, home(now, w)) > apart(now, m.ahead, home(now, w));
    }

    private Move lastOf(int e) {
        for (int k = now.moves.size() - 1; k >= 0; k--) {
            if (now.moves.get(k).who == e) {
                return now.moves.get(k);
            }
        }
        return null;
    }

    // the face

    int count(int what) {
        int[] all = {now.envoys.size(), now.places, now.stone, now.turn, now.moves.size(), texts.size(), now.law,
            tape.length()};
        return in(what, 0, 7) ? all[what] : -2;
    }

    int set(int what, int v) {
        if (what == 1) {
            int was = now.stone;
            if (!in(v, 0, now.places - 1)) {
                return -7;
            }
            now = now.at(v);
            return was;
        }
        if (what != 0) {
            return -5;
        }
        if (!in(v, 3, 19)) {
            return -7;
        }
        if (!now.moves.isEmpty()) {
            return -3;
        }
        int was = now.places;
        now = new State(v, now.stone % v, now.turn, now.envoys, now.moves, now.law);
        return was;
    }

    int feed(int n, int... five) {
        if (!in(n, 1, 5) || Arrays.stream(five).anyMatch(b -> b < 0 || b > 255)) {
            return -2;
        }
        if (tape.length() + n > 160) {
            return -4;
        }
        for (int i = 0; i < n; i++) {
            tape += (char) five[i];
        }
        return tape.length();
    }

    int text() {
        if (texts.size() == 6) {
            return -4;
        }
        String was = tape;
        tape = "";
        try {
            texts.add(new Parser(was).text());
            return texts.size() - 1;
        } catch (Fault f) {
            return -100 - f.place;
        }
    }

    int force(int t) {
        if (!in(t, 0, texts.size() - 1)) {
            return -2;
        }
        int was = now.law;
        now = now.by(t);
        return was;
    }

    int asks(int part, int e, int reasonStep, int at) {
        for (int reason = 0; reason < 4; reason++) {
            for (int step = -4; step <= 4; step++) {
                if (10 * reason + step + 4 == reasonStep && in(part, 0, 2) && is(e) && in(at, 0, now.places - 1)) {
                    return says(now, part, e, reason, step, at);
                }
            }
        }
        return -1000;
    }

    int envoy(int kind, int more) {
        if (!in(kind, 0, 5) || !in(more, 0, 9)) {
            return -2;
        }
        if (!now.moves.isEmpty()) {
            return -3;
        }
        int e = now.envoys.size();
        if (e == 5) {
            return -4;
        }
        if (e > 0 && now.envoys.get(e - 1).wish == 0) {
            now = now.of(e - 1, now.envoys.get(e - 1).wishing(e));
        }
        List<Envoy> more1 = new ArrayList<>(now.envoys);
        more1.add(new Envoy(kind, more, 0, null, false));
        now = new State(now.places, now.stone, now.turn, more1, now.moves, now.law);
        return e;
    }

    int hope(int e, int w) {
        if (!is(e)) {
            return -5;
        }
        boolean alone = now.envoys.size() == 1;
        if (!is(w) || (alone ? w != e : w == e)) {
            return -7;
        }
        int was = now.envoys.get(e).wish;
        now = now.of(e, now.envoys.get(e).wishing(w));
        return was;
    }

    int told(int e, int what) {
        if (!is(e)) {
            return -5;
        }
        Envoy x = now.envoys.get(e);
        int[] all = {x.kind, x.more, x.wish, x.last == null ? -1 : x.last, far(x), x.shown ? 1 : 0, home(now, e)};
        return in(what, 0, 6) ? all[what] : -7;
    }

    int winner(int at) {
        if (!in(at, 0, now.places - 1)) {
            return -2;
        }
        return now.envoys.isEmpty() ? -1 : winnerOf(now, at);
    }

    int next() {
        return mover(now);
    }

    int steps() {
        int bits = 0;
        if (!now.envoys.isEmpty()) {
            for (int step : free(now, mover(now))) {
                bits += 1 << (step + 4);
            }
        }
        return bits;
    }

    int move(int step, int reason) {
        if (!in(step, -4, 4) || !in(reason, 0, 3)) {
            return -7;
        }
        if (now.envoys.isEmpty()) {
            return -3;
        }
        if (now.moves.size() == 60) {
            return -4;
        }
        int who = mover(now);
        List<Move> moves = new ArrayList<>(now.moves);
        moves.add(new Move(who, step, reason, now.stone, going(now, step), !mayGo(now, who, step)));
        State t = moving(now, step, reason);
        now = new State(t.places, t.stone, t.turn, t.envoys, moves, t.law);
        return now.stone;
    }

    int moved(int k, int what) {
        if (!in(k, 0, now.moves.size() - 1)) {
            return -105;
        }
        Move m = now.moves.get(k);
        int[] all = {m.who, m.step, m.reason, m.ahead, m.breaks ? 1 : 0};
        return in(what, 0, 4) ? all[what] : -107;
    }

    int broken(int e, int from) {
        if (e != -1 && !is(e)) {
            return -5;
        }
        if (!in(from, 0, 60)) {
            return -7;
        }
        for (int k = from; k < now.moves.size(); k++) {
            Move m = now.moves.get(k);
            if (m.breaks && (e == -1 || e == m.who)) {
                return k;
            }
        }
        return -1;
    }

    int may(int e) {
        if (!is(e)) {
            return -5;
        }
        if (now.envoys.get(e).shown) {
            return 1 << now.envoys.get(e).wish;
        }
        int bits = 0;
        for (int w = 0; w < now.envoys.size(); w++) {
            int other = w;
            boolean never = now.moves.stream().noneMatch(m -> m.who == e && against(m, other));
            if (never && (w != e || now.envoys.size() == 1)) {
                bits += 1 << w;
            }
        }
        return bits;
    }

    int call(int e, int other) {
        if (!is(e) || !is(other) || e == other) {
            return -5;
        }
        Move m = lastOf(other);
        if (m == null) {
            return -3;
        }
        int whose = against(m, now.envoys.get(other).wish) ? other : e;
        now = now.of(whose, now.envoys.get(whose).showing());
        return whose;
    }

    private static long part(long above, long below, int part) {
        long by = BigInteger.valueOf(above).gcd(BigInteger.valueOf(below)).longValue();
        return part == 0 ? above / by : below / by;
    }

    long worth(int e, int other, int part) {
        if (!is(e) || !is(other) || e == other || !in(part, 0, 1)) {
            return NO;
        }
        Move m = lastOf(other);
        if (m == null) {
            return NO;
        }
        int lies = 0;
        int truths = 0;
        for (int w = 0; w < now.envoys.size(); w++) {
            if (w != other && against(m, w)) {
                lies++;
            } else if (w != other) {
                truths++;
            }
        }
        long price = says(now, 2, e, m.reason, m.step, now.stone);
        return part((lies - truths) * price, lies + truths, part);
    }

    record Best(int end, int step, int reason) {}

    private Best bestOf(State s, int n) {
        if (n == 0) {
            return new Best(s.stone, 0, 0);
        }
        int e = mover(s);
        int said = s.envoys.get(e).last == null ? 0 : s.envoys.get(e).last;
        Best best = null;
        for (int step : free(s, e)) {
            for (int reason = 0; reason < (n <= s.envoys.size() ? 1 : 4); reason++) {
                int end = bestOf(moving(s, step, reason), n - 1).end;
                if (best == null || says(s, 1, e, said, 0, end) > says(s, 1, e, said, 0, best.end)) {
                    best = new Best(end, step, reason);
                }
            }
        }
        return best != null ? best : new Best(bestOf(moving(s, 0, 3), n - 1).end, 0, 3);
    }

    int best(int turns, int what) {
        if (!in(turns, 1, 3) || !in(what, 0, 2)) {
            return -107;
        }
        if (now.envoys.isEmpty()) {
            return -103;
        }
        Best b = bestOf(now, turns);
        return what == 0 ? b.end : what == 1 ? b.step : b.reason;
    }

    private boolean forces(State s, int some, int at, int n) {
        if (n == 0) {
            return s.stone == at;
        }
        int e = mover(s);
        List<State> then = new ArrayList<>();
        List<Integer> free = free(s, e);
        for (int step : free.isEmpty() ? List.of(0) : free) {
            then.add(new State(s.places, going(s, step), s.turn + 1, s.envoys, s.moves, s.law));
        }
        if ((some >> e) % 2 == 1) {
            return then.stream().anyMatch(t -> forces(t, some, at, n - 1));
        }
        return then.stream().allMatch(t -> forces(t, some, at, n - 1));
    }

    int canForce(int some, int at, int turns) {
        if (!in(some, 0, (1 << now.envoys.size()) - 1) || !in(at, 0, now.places - 1) || !in(turns, 0, 4)) {
            return -2;
        }
        if (now.envoys.isEmpty()) {
            return -3;
        }
        return forces(now, some, at, turns) ? 1 : 0;
    }

    int reach(int some, int turns) {
        int bits = 0;
        for (int at = 0; at < now.places; at++) {
            int can = canForce(some, at, turns);
            if (can < 0) {
                return can;
            }
            bits |= can << at;
        }
        return bits;
    }

    int loosest(int e, int what) {
        if (!is(e)) {
            return -5;
        }
        if (!in(what, 0, 1)) {
            return -7;
        }
        int[] many = new int[4];
        for (int reason = 0; reason < 4; reason++) {
            many[reason] = free(now.of(e, now.envoys.get(e).saying(reason)), e).size();
        }
        int most = Arrays.stream(many).max().getAsInt();
        int first = 0;
        while (many[first] != most) {
            first++;
        }
        return what == 0 ? first : most;
    }

    private int[] dealt(int e, int[] deal, int w) {
        int m = now.envoys.size();
        int[] counts = new int[6];
        if (e == m) {
            counts[(int) Arrays.stream(deal).filter(v -> v == w).count()] = 1;
            return counts;
        }
        for (int v = 0; v < m; v++) {
            if (v != e) {
                int[] longer = Arrays.copyOf(deal, e + 1);
                longer[e] = v;
                int[] inner = dealt(e + 1, longer, w);
                for (int i = 0; i < 6; i++) {
                    counts[i] += inner[i];
                }
            }
        }
        return counts;
    }

    int deals(int many, int what) {
        if (!in(many, 0, 5) || !in(what, 0, 1)) {
            return -2;
        }
        if (now.envoys.size() < 2) {
            return -3;
        }
        int[] counts = dealt(0, new int[0], winnerOf(now, now.stone));
        return what == 0 ? counts[many] : Arrays.stream(counts).sum();
    }

    private int refused(int s) {
        if (!in(s, 0, 3)) {
            return -2;
        }
        if (rows[s] == null) {
            return -11;
        }
        int[] n = rows[s].n;
        boolean good = n.length % 2 == 0;
        for (int i = 0; i < n.length; i++) {
            good &= i % 2 == 0 ? in(n[i], -4, 4) : in(n[i], 0, 3);
        }
        if (!good) {
            return -2;
        }
        return now.envoys.isEmpty() ? -3 : 0;
    }

    private int judged(State from, int s) {
        State t = from;
        for (int k = 0; 2 * k < rows[s].n.length; k++) {
            if (!mayGo(t, mover(t), rows[s].n[2 * k])) {
                return k;
            }
            t = moving(t, rows[s].n[2 * k], rows[s].n[2 * k + 1]);
        }
        return -1;
    }

    private State ended(State from, int s) {
        State t = from;
        for (int k = 0; 2 * k < rows[s].n.length; k++) {
            t = moving(t, rows[s].n[2 * k], rows[s].n[2 * k + 1]);
        }
        return t;
    }

    private int of(State end, int what) {
        int w = winnerOf(end, end.stone);
        return what == 0 ? end.stone : what == 1 ? w : wishing(end, w);
    }

    int judge(int s) {
        return refused(s) != 0 ? refused(s) : judged(now, s);
    }

    int end(int s, int what) {
        if (refused(s) != 0) {
            return refused(s);
        }
        return in(what, 0, 2) ? of(ended(now, s), what) : -7;
    }

    int kinds(int s, int e, int sort) {
        if (refused(s) != 0) {
            return refused(s);
        }
        if (!is(e)) {
            return -5;
        }
        if (!in(sort, 0, 1)) {
            return -7;
        }
        int bits = 0;
        Envoy x = now.envoys.get(e);
        for (int v = 0; v < (sort == 0 ? 6 : 10); v++) {
            Envoy y = sort == 0 ? new Envoy(v, x.more, x.wish, x.last, x.shown)
                : new Envoy(x.kind, v, x.wish, x.last, x.shown);
            bits += judged(now.of(e, y), s) == -1 ? 1 << v : 0;
        }
        return bits;
    }

    int starts(int s, int what) {
        if (refused(s) != 0) {
            return refused(s);
        }
        for (int at = 0; at < now.places; at++) {
            for (int i = 0; i < 2; i++) {
                if (100 * at + i == what) {
                    int bits = 0;
                    for (int p = 0; p < now.places; p++) {
                        State from = now.at(p);
                        boolean yes = i == 0 ? judged(from, s) == -1 : ended(from, s).stone == at;
                        bits += yes ? 1 << p : 0;
                    }
                    return bits;
                }
            }
        }
        return -7;
    }

    int laws(int s) {
        if (refused(s) != 0) {
            return refused(s);
        }
        int bits = 0;
        for (int t = 0; t < texts.size(); t++) {
            bits += judged(now.by(t), s) == -1 ? 1 << t : 0;
        }
        return bits;
    }

    int film(int s, int from) {
        if (!in(s, 0, 3) || !in(from, 0, 60)) {
            return -2;
        }
        List<Integer> told = new ArrayList<>();
        for (int k = from; k < now.moves.size() && told.size() < 40; k++) {
            told.add(now.moves.get(k).step);
            told.add(now.moves.get(k).reason);
        }
        rows[s] = new Row(0, told.size());
        for (int i = 0; i < told.size(); i++) {
            rows[s].put(i, told.get(i));
        }
        return told.size() / 2;
    }

    private State lots(int seed, int n) {
        State t = now;
        BigInteger modulus = BigInteger.valueOf(2147483647);
        BigInteger lot = BigInteger.valueOf(seed).add(BigInteger.ONE);
        for (int k = 0; k < n; k++) {
            lot = lot.multiply(BigInteger.valueOf(48271)).mod(modulus);
            List<Integer> free = free(t, mover(t));
            int step = free.isEmpty() ? 0 : free.get(lot.mod(BigInteger.valueOf(free.size())).intValue());
            t = moving(t, step, lot.shiftRight(4).mod(BigInteger.valueOf(4)).intValue());
        }
        return t;
    }

    int drawn(int seed, int n, int what) {
        if (!in(seed, 0, 99999) || !in(n, 0, 40) || !in(what, 0, 2)) {
            return -2;
        }
        return now.envoys.isEmpty() ? -3 : of(lots(seed, n), what);
    }

    long odds(int seed, int movesSeeds, int e, int part) {
        for (int n = 0; n <= 40; n++) {
            int seeds = movesSeeds - 100 * n;
            if (in(seeds, 1, 50) && in(seed, 0, 99999) && is(e) && in(part, 0, 1)) {
                int wins = 0;
                for (int i = 0; i < seeds; i++) {
                    State end = lots(seed + i, n);
                    wins += winnerOf(end, end.stone) == now.envoys.get(e).wish ? 1 : 0;
                }
                return part(wins, seeds, part);
            }
        }
        return NO;
    }

    int image() {
        kept = now;
        return now.envoys.size();
    }

    int back() {
        if (kept == null) {
            return -3;
        }
        now = kept;
        return now.envoys.size();
    }

    int sheet(int s, int sort, int n) {
        if (!in(s, 0, 3) || !in(sort, -1, 2)) {
            return -2;
        }
        if (sort == -1) {
            rows[s] = null;
            return 1;
        }
        if (n > 40) {
            return -2;
        }
        if (n < 0) {
            return -14;
        }
        rows[s] = new Row(sort, n);
        return 1;
    }

    int cell(int s, int i, int v) {
        if (!in(s, 0, 3)) {
            return -2;
        }
        if (rows[s] == null) {
            return -11;
        }
        if (!in(i, 0, rows[s].n.length - 1)) {
            return -12;
        }
        rows[s].put(i, v);
        return 1;
    }

    int copy(int s, int i, int other, int j, int n) {
        if (!in(s, 0, 3) || !in(other, 0, 3)) {
            return -2;
        }
        if (rows[s] == null || rows[other] == null) {
            return -11;
        }
        if (rows[s].sort != rows[other].sort) {
            return -13;
        }
        try {
            System.arraycopy(rows[s].n, i, rows[other].n, j, n);
            return n;
        } catch (IndexOutOfBoundsException x) {
            return -12;
        }
    }

    int envoysBy(int s, int sort, int at, int n) {
        if (!in(s, 0, 3) || !in(sort, 0, 2) || !in(n, 0, 5)) {
            return -2;
        }
        if (rows[s] == null) {
            return -11;
        }
        if (rows[s].sort != sort) {
            return -13;
        }
        int came = 0;
        for (int k = 0; k < n; k++) {
            long place = at + 2L * k;
            if (place < 0 || place + 1 >= rows[s].n.length) {
                return -12;
            }
            if (envoy(rows[s].n[(int) place], rows[s].n[(int) place + 1]) >= 0) {
                came++;
            }
        }
        return came;
    }

    int taken(int i, int kind) {
        if (!in(kind, 0, 6)) {
            return -2;
        }
        if (!in(i, 0, 64)) {
            return -12;
        }
        if (i < 5) {
            if (!is(i)) {
                return -11;
            }
            int[] above = {0, 0, 0, 1, 2, 0};
            int k = now.envoys.get(i).kind;
            while (k != kind && k != 0) {
                k = above[k];
            }
            return k == kind ? i : -13;
        }
        if (i - 5 >= now.moves.size()) {
            return -11;
        }
        return kind == 6 ? now.moves.get(i - 5).step : -13;
    }
}
