import java.util.Random;

/** Long runs of calls by a fixed seed, each answer set against the model's. */
public final class ModelTest {
    private static final int RUNS = 1500, CALLS = 512;
    private static Random random;
    private static final int[] EDGES = {-1000, -5, -2, -1, 0, 1, 2, 3, 4, 5, 6, 9, 10, 18, 19, 20, 39, 40, 41, 59, 60,
        61, 64, 65, 99, 100, 99999, 100000, Integer.MAX_VALUE, Integer.MIN_VALUE};

    private static Ambassadors x;
    private static Model m;
    private static String run;

    public static void main(String[] args) {
        int runs = args.length > 0 ? Integer.parseInt(args[0]) : RUNS;
        for (int r = 0; r < runs; r++) {
            random = new Random(r);
            x = new Ambassadors();
            m = new Model();
            run = "run " + r;
            int wild = random.nextInt(3) == 0 ? 10 : 100;
            int calls = random.nextInt(12) == 0 ? 0 : opening(wild);
            while (calls < CALLS) {
                calls += one(wild);
            }
        }
        Check.finish();
    }

    /** A number from low to high, once in wild another one. */
    private static int from(int low, int high, int wild) {
        if (random.nextInt(wild) == 0) {
            return random.nextBoolean() ? EDGES[random.nextInt(EDGES.length)] : low - 1 + random.nextInt(high - low + 3);
        }
        return low + random.nextInt(high - low + 1);
    }

    private static int envoys(int wild) {
        return from(0, Math.max(0, m.count(0) - 1), wild);
    }

    private static int place(int wild) {
        return from(0, m.count(1) - 1, wild);
    }

    private static int bits(int wild) {
        return from(0, (1 << m.count(0)) - 1, wild);
    }

    private static void due(String call, long got, long want) {
        Check.due(run + ": " + call, got, want);
    }

    /** Envoys ahead of moves, so that most runs are of several. */
    private static int opening(int w) {
        int envoys = random.nextInt(6);
        for (int e = 0; e < envoys; e++) {
            int kind = from(0, 5, w);
            int more = from(0, 9, w);
            due("envoy " + kind + " " + more, x.envoy(kind, more), m.envoy(kind, more));
        }
        int calls = envoys;
        if (random.nextBoolean()) {
            int places = from(3, 19, w);
            due("set 0 " + places, x.set(0, places), m.set(0, places));
            calls++;
        }
        int texts = random.nextInt(4);
        for (int t = 0; t < texts; t++) {
            calls += text(w);
        }
        if (texts > 0) {
            law(w);
            calls++;
        }
        if (random.nextBoolean()) {
            due("image", x.image(), m.image());
            calls++;
        }
        for (int s = 0; s < 4; s++) {
            calls += random.nextBoolean() ? moves(s, random.nextInt(3), w) : 0;
        }
        return calls;
    }

    private static int one(int w) {
        int kind = random.nextInt(1000);
        if (kind < 200) {
            return change(w);
        }
        if (kind < 270) {
            return rows(w);
        }
        if (kind < 275) {
            return text(w);
        }
        return kind < 300 ? law(w) : kind < 600 ? ask(w) : deep(w);
    }

    private static int change(int w) {
        int a;
        int b;
        switch (random.nextInt(20)) {
            case 0:
                a = from(0, 1, w);
                b = a == 0 ? from(3, 19, w) : place(w);
                due("set " + a + " " + b, x.set(a, b), m.set(a, b));
                break;
            case 1:
            case 2:
                a = from(0, 5, w);
                b = from(0, 9, w);
                due("envoy " + a + " " + b, x.envoy(a, b), m.envoy(a, b));
                break;
            case 3:
                a = envoys(w);
                b = envoys(w);
                due("hope " + a + " " + b, x.hope(a, b), m.hope(a, b));
                break;
            case 4:
                a = envoys(w);
                b = envoys(w);
                due("call " + a + " " + b, x.call(a, b), m.call(a, b));
                break;
            case 5:
                if (random.nextInt(4) == 0) {
                    due("image", x.image(), m.image());
                }
                break;
            case 6:
                if (random.nextInt(3) == 0) {
                    due("back", x.back(), m.back());
                }
                break;
            default:
                if (m.count(0) < 2 && m.count(4) == 0 && random.nextInt(10) > 0) {
                    break;
                }
                a = from(random.nextBoolean() ? -4 : -2, random.nextBoolean() ? 4 : 2, w);
                b = from(0, 3, w);
                due("move " + a + " " + b, x.move(a, b), m.move(a, b));
        }
        return 1;
    }

    private static int rows(int w) {
        int s = from(0, 3, w);
        int sort = from(0, 2, w);
        int calls = 1;
        switch (random.nextInt(8)) {
            case 0:
                int missing = random.nextInt(6) == 0 ? -1 : sort;
                int size = from(0, 40, w);
                due("sheet", x.sheet(s, missing, size), m.sheet(s, missing, size));
                break;
            case 1:
                int i = from(0, 40, w);
                int v = from(-4, 4, w);
                due("cell", x.cell(s, i, v), m.cell(s, i, v));
                break;
            case 2:
                int other = from(0, 3, w);
                int a = from(0, 10, w);
                int b = from(0, 10, w);
                int n = from(0, 10, w);
                due("copy", x.copy(s, a, other, b, n), m.copy(s, a, other, b, n));
                break;
            case 3:
                int at = from(0, 8, w);
                int many = from(0, 5, w);
                if (m.count(0) < 1 || random.nextInt(4) == 0) {
                    due("envoysBy", x.envoysBy(s, sort, at, many), m.envoysBy(s, sort, at, many));
                }
                break;
            case 4:
                int from = from(0, 60, w) % Math.max(1, m.count(4) + 2);
                due("film", x.film(s, from), m.film(s, from));
                break;
            default:
                calls = moves(s, sort, w);
        }
        return calls;
    }

    private static int moves(int s, int sort, int w) {
        int size = 2 * random.nextInt(random.nextInt(4) == 0 ? 21 : 5);
        due("sheet", x.sheet(s, sort, size), m.sheet(s, sort, size));
        for (int k = 0; k < size; k++) {
            int far = random.nextInt(4) == 0 ? 4 : random.nextInt(3);
            int number = k % 2 == 0 ? from(-far, far, 4 * w) : from(0, 3, 4 * w);
            due("cell", x.cell(s, k, number), m.cell(s, k, number));
        }
        return size + 1;
    }

    private static final String[] NAMES = {"reason", "step", "stone", "more", "far", "turn"};

    private static String sum(int depth) {
        switch (random.nextInt(depth < 1 ? 4 : 10)) {
            case 0: return "" + random.nextInt(random.nextInt(5) == 0 ? 10000 : 10);
            case 1:
            case 2:
            case 3: return NAMES[random.nextInt(6)];
            case 4: return sum(depth - 1) + " + " + sum(depth - 1);
            case 5: return sum(depth - 1) + "-" + sum(depth - 1);
            case 6: return sum(depth - 1) + "*" + sum(depth - 1);
            case 7: return "- " + sum(0);
            default: return "(" + either(depth - 1) + ")";
        }
    }

    private static String either(int depth) {
        switch (random.nextInt(depth < 1 ? 4 : 8)) {
            case 0: return sum(depth);
            case 1: return sum(depth - 1) + " < " + sum(depth - 1);
            case 2: return sum(depth - 1) + "=" + sum(depth - 1);
            case 3: return "not " + sum(0);
            case 4: return either(depth - 1) + " or " + either(depth - 1);
            case 5: return either(depth - 1) + " and " + either(depth - 1);
            case 6: return "not " + either(depth - 1);
            default: return "(" + either(depth - 1) + ")";
        }
    }

    private static final String LETTERS = "abcdefghijklmnopqrstuvwxyz0123456789();+-*<= \n?A\t/:`{";

    private static int text(int w) {
        String text = "allows " + either(3) + (random.nextBoolean() ? " ; " : ";") + "worth " + either(3) + " ;\nprice "
            + either(2) + ";";
        StringBuilder tape = new StringBuilder(text);
        int spoilt = random.nextInt(3) == 0 ? 1 + random.nextInt(3) : 0;
        for (int i = 0; i < spoilt; i++) {
            int at = random.nextInt(Math.max(1, tape.length()));
            if (tape.length() == 0) {
                break;
            }
            switch (random.nextInt(4)) {
                case 0: tape.deleteCharAt(at); break;
                case 1: tape.setLength(at + 1); break;
                case 2: tape.setCharAt(at, LETTERS.charAt(random.nextInt(LETTERS.length()))); break;
                default: tape.insert(at, random.nextInt(3) == 0 ? "((" : "" + LETTERS.charAt(random.nextInt(LETTERS.length())));
            }
        }
        if (tape.length() > 160) {
            return 1;
        }
        return feedAll(tape.toString());
    }

    private static int feedAll(String text) {
        int calls = 1;
        for (int i = 0; i < text.length(); i += 5) {
            int n = Math.min(5, text.length() - i);
            int[] b = new int[5];
            for (int k = 0; k < n; k++) {
                b[k] = text.charAt(i + k);
            }
            due("feed", x.feed(n, b[0], b[1], b[2], b[3], b[4]), m.feed(n, b[0], b[1], b[2], b[3], b[4]));
            calls++;
        }
        due("text <" + text + ">", x.text(), m.text());
        return calls;
    }

    private static int law(int w) {
        int t = from(0, m.count(5) - 1, w);
        due("force", x.force(t), m.force(t));
        return 1;
    }

    private static int ask(int w) {
        int a = envoys(w);
        int b = envoys(w);
        int p = place(w);
        switch (random.nextInt(15)) {
            case 0: b = from(0, 7, w); due("count " + b, x.count(b), m.count(b)); break;
            case 1:
            case 13:
            case 14:
                int part = from(0, 2, w);
                int rs = 10 * from(0, 3, w) + from(0, 8, w);
                due("asks", x.asks(part, a, rs, p), m.asks(part, a, rs, p));
                break;
            case 2: b = from(0, 6, w); due("told " + a + " " + b, x.told(a, b), m.told(a, b)); break;
            case 3: due("winner", x.winner(p), m.winner(p)); break;
            case 4: due("next", x.next(), m.next()); break;
            case 5: due("steps", x.steps(), m.steps()); break;
            case 6:
                int k = from(0, Math.max(0, m.count(4) - 1), w);
                b = from(0, 4, w);
                due("moved " + k + " " + b, x.moved(k, b), m.moved(k, b));
                break;
            case 7:
                a = random.nextInt(3) == 0 ? -1 : a;
                b = from(0, random.nextBoolean() ? 5 : 60, w);
                due("broken " + a + " " + b, x.broken(a, b), m.broken(a, b));
                break;
            case 8: due("may " + a, x.may(a), m.may(a)); break;
            case 9:
            case 10:
                int above = from(0, 1, w);
                b = a == b && a > 0 ? a - 1 : b;
                due("worth " + a + " " + b + " " + above, x.worth(a, b, above), m.worth(a, b, above));
                break;
            default:
                int place = from(0, random.nextBoolean() ? 5 : 64, w);
                int kind = from(0, 6, w);
                due("taken " + place + " " + kind, x.taken(place, kind), m.taken(place, kind));
        }
        return 1;
    }

    private static int deep(int w) {
        int s = from(0, 3, w);
        int e = envoys(w);
        int some = bits(w);
        int turns = from(0, 4, w);
        int seed = from(0, 99999, w);
        int what = from(0, 2, w);
        int n = from(0, 40, w);
        switch (random.nextInt(14)) {
            case 0:
                turns = from(1, random.nextInt(8) == 0 ? 3 : 2, w);
                due("best " + turns + " " + what, x.best(turns, what), m.best(turns, what));
                break;
            case 1:
            case 2:
                int p = place(w);
                due("canForce " + some + " " + p + " " + turns, x.canForce(some, p, turns), m.canForce(some, p, turns));
                break;
            case 3:
                turns = turns > 2 && random.nextInt(10) > 0 ? 2 : turns;
                due("reach " + some + " " + turns, x.reach(some, turns), m.reach(some, turns));
                break;
            case 4: due("loosest " + e + " " + what, x.loosest(e, what), m.loosest(e, what)); break;
            case 5: n = from(0, 5, w); due("deals " + n, x.deals(n, what % 2), m.deals(n, what % 2)); break;
            case 6: due("judge " + s, x.judge(s), m.judge(s)); break;
            case 7: due("end " + s, x.end(s, what), m.end(s, what)); break;
            case 8:
            case 9: what = from(0, 1, w); due("kinds " + s, x.kinds(s, e, what), m.kinds(s, e, what)); break;
            case 10:
                what = 100 * place(w) + from(0, 1, w);
                due("starts " + s + " " + what, x.starts(s, what), m.starts(s, what));
                break;
            case 11: due("laws " + s, x.laws(s), m.laws(s)); break;
            case 12: due("drawn " + seed + " " + n, x.drawn(seed, n, what), m.drawn(seed, n, what)); break;
            default:
                int seeds = 100 * from(0, random.nextInt(8) == 0 ? 40 : 5, w) + from(1, random.nextInt(8) == 0 ? 50 : 5, w);
                int part = from(0, 1, w);
                due("odds " + seed + " " + seeds, x.odds(seed, seeds, e, part), m.odds(seed, seeds, e, part));
        }
        return 1;
    }
}
