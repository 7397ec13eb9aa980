/** The wheel, the law: promises 1 to 3, 6, 7, and the terms on which they rest. */
final class EdgeWheel extends Edge {
    static void run() {
        terms();
        lawTerms();
        newObject();
        count();
        set();
        force();
        asks();
    }

    private static void terms() {
        sentence(TERMS, "THE WHEEL: n PLACES (3 .. 19; 19 at first)", () -> {
            Used x = new Used();
            due("PLACES at first", x.count(1), 19);
            int was = 19;
            for (int n : new int[] {3, 4, 18, 19}) {
                due("set(0, " + n + ")", x.set(0, n), was);
                was = n;
                for (int wrong : new int[] {2, 20, 1, 0, -1, -3, 21, 259, MIN, MAX}) {
                    due("set(0, " + wrong + ")", x.set(0, wrong), -7);
                }
                due("PLACES", x.count(1), n);
            }
        });
        sentence(TERMS, "0 .. n less 1, to the right of the last the first", () -> {
            for (int n = 3; n <= 19; n++) {
                Used x = plain(1);
                x.set(0, n);
                due("the last of " + n, x.set(1, n - 1), 0);
                due("behind the last of " + n, x.set(1, n), -7);
                due("ahead of the first", x.set(1, -1), -7);
                due("the stone", x.count(2), n - 1);
                due("from the last 1 to the right", x.move(1, 3), 0);
                due("from the first 1 to the left", x.move(-1, 3), n - 1);
                due("from the last 1 to the right, by the third turn", x.move(-1, 3), 0);
                due("from the first 1 to the left", x.move(-1, 3), n - 1);
                due("from the last 4 to the right", x.move(4, 3), n == 3 ? 0 : 3);
                x.set(1, 0);
                due("from the first 4 to the left, by the third turn", x.move(4, 3), n == 3 ? 2 : n - 4);
                due("winner(" + (n - 1) + ")", x.winner(n - 1), 0);
                due("winner(" + n + ")", x.winner(n), BAD);
            }
        });
        sentence(TERMS, "APART of two: the fewest steps from the one to the other, either way round.", () -> {
            for (int n = 3; n <= 19; n++) {
                Used x = plain(2);
                x.set(0, n);
                law(x, "allows 1;worth far;price far;");
                for (int p = 0; p < n; p++) {
                    // envoy 1 wishes 0, of HOME 0; envoy 0 wishes 1
                    due(p + " and 0 of " + n, x.asks(1, 1, 4, p), p <= n - p ? p : n - p);
                    int right = p < n / 2 ? p + n - n / 2 : p - n / 2;
                    due(p + " and " + n / 2 + " of " + n, x.asks(1, 0, 4, p), right <= n - right ? right : n - right);
                }
            }
            Used x = plain(1);
            law(x, "allows 1;worth far;price far;");
            due("9 and 0 of 19", x.asks(1, 0, 4, 9), 9);
            due("10 and 0 of 19", x.asks(1, 0, 4, 10), 9);
            x.set(0, 18);
            due("9 and 0 of 18", x.asks(1, 0, 4, 9), 9);
            due("10 and 0 of 18", x.asks(1, 0, 4, 10), 8);
        });
        sentence(TERMS, "THE STONE is on one (0 at first).", () -> {
            due("the stone at first", new Used().count(2), 0);
            Used x = plain(1);
            for (int p = 0; p < 19; p++) {
                x.set(1, p);
                due("the stone on " + p, x.count(2), p);
            }
        });
        sentence(TERMS, "THE TURN is a number (0 at first).", () -> {
            due("the turn at first", new Used().count(3), 0);
            Used x = plain(2);
            for (int k = 0; k <= 60; k++) {
                due("the turn behind " + k, x.count(3), k);
                x.move(1, 3);
            }
            due("the turn behind a move that has no room", x.count(3), 60);
        });
    }

    private static void bounded(int v, int worth, String number) {
        Used x = plain(1);
        law(x, "allows " + number + ";worth " + number + ";price " + number + ";");
        due("allows " + number, x.asks(0, 0, 4, 0), v == 0 ? 0 : 1);
        due("worth " + number, x.asks(1, 0, 4, 0), worth);
        due("price " + number, x.asks(2, 0, 4, 0), worth);
    }

    private static void lawTerms() {
        sentence(TERMS, "TEXT 0, at first, and THE LAW: allows reason = 3 or not step = 0 ; worth 9 - far ; price 3 ;",
            () -> {
                Used x = plain(2);
                due("texts", x.count(5), 1);
                due("the law", x.count(6), 0);
                for (int reason = 0; reason < 4; reason++) {
                    for (int step = -4; step <= 4; step++) {
                        int allows = reason == 3 || step != 0 ? 1 : 0;
                        due("allows " + reason + ", " + step, x.asks(0, 0, 10 * reason + step + 4, 7), allows);
                        due("price " + reason + ", " + step, x.asks(2, 1, 10 * reason + step + 4, 7), 3);
                    }
                }
                // envoy 1 wishes 0, whose HOME is 0
                int[] worth = {9, 8, 7, 6, 5, 4, 3, 2, 1, 0, 0, 1, 2, 3, 4, 5, 6, 7, 8};
                for (int p = 0; p < 19; p++) {
                    due("worth of " + p, x.asks(1, 1, 4, p), worth[p]);
                }
            });
        sentence(TERMS, "(allows: 0 no, else yes; worth, price -99 .. 99, else the bound)", () -> {
            int[] numbers = {0, 1, -1, 2, -2, 98, 99, 100, 101, -98, -99, -100, -101, 255, 256, -256, 9999, -9999};
            for (int v : numbers) {
                bounded(v, v > 99 ? 99 : v < -99 ? -99 : v, v < 0 ? "-" + -v : "" + v);
            }
            bounded(1 << 16, 99, "256*256");
            bounded(MAX, 99, "2048*2048*512-1");
            bounded(MIN, -99, "2048*2048*512");
            bounded(0, 0, "2048*2048*1024");
            // beyond 32 bits: the lowest of them
            bounded(5, 5, "2048*2048*1024+5");
        });
        sentence(TERMS, "of an ENVOY: more: MORE; turn: THE TURN then; stone: a PLACE; far: how far APART that and HOME"
            + " of one's WISH are; reason, step as told.", () -> {
                Used x = with(0, 0, 5, 9, 0, 4);
                // HOMES 0, 6, 12; wishes 1, 2, 0
                law(x, "allows 1;worth more;price turn;");
                due("more 0", x.asks(1, 0, 4, 0), 0);
                due("more 9", x.asks(1, 1, 4, 0), 9);
                due("more 4", x.asks(1, 2, 4, 0), 4);
                due("turn 0", x.asks(2, 0, 4, 0), 0);
                law(x, "allows 1;worth stone;price far;");
                x.set(1, 5);
                for (int p : new int[] {0, 1, 9, 18}) {
                    due("stone " + p, x.asks(1, 0, 4, p), p);
                }
                due("0 and 6", x.asks(2, 0, 4, 0), 6);
                due("18 and 6", x.asks(2, 0, 4, 18), 7);
                due("6 and 6", x.asks(2, 0, 4, 6), 0);
                due("18 and 12", x.asks(2, 1, 4, 18), 6);
                due("18 and 0", x.asks(2, 2, 4, 18), 1);
                x.hope(2, 1);
                due("18 and 6, by another wish", x.asks(2, 2, 4, 18), 7);
                law(x, "allows 1;worth reason;price step;");
                for (int reason = 0; reason < 4; reason++) {
                    for (int step = -4; step <= 4; step++) {
                        due("reason " + reason, x.asks(1, 0, 10 * reason + step + 4, 3), reason);
                        due("step " + step, x.asks(2, 0, 10 * reason + step + 4, 3), step);
                    }
                }
                moves(x, 60);
                x.force(1);
                due("turn 60", x.asks(2, 0, 4, 0), 60);
            });
    }

    private static void newObject() {
        sentence(1, "No ENVOYS.", () -> {
            Used x = new Used();
            due("envoys", x.count(0), 0);
            due("told(0, 0)", x.told(0, 0), -5);
            due("may(0)", x.may(0), -5);
            due("next()", x.next(), -1);
            due("steps()", x.steps(), 0);
            due("taken(0, 0)", x.taken(0, 0), -11);
            due("moves", x.count(4), 0);
            due("texts", x.count(5), 1);
            due("the law", x.count(6), 0);
            due("bytes", x.count(7), 0);
            due("a second object has its own", x.envoy(0, 0), 0);
            due("a third one, too", new Used().count(0), 0);
        });
    }

    private static void count() {
        sentence(2, "0 ENVOYS, 1 PLACES, 2 where THE STONE is, 3 THE TURN, 4 MOVES, 5 TEXTS, 6 THE LAW, 7 bytes of THE"
            + " TAPE.", () -> {
                Used x = new Used();
                counts("at first", x, 0, 19, 0, 0, 0, 1, 0, 0);
                for (int e = 0; e < 5; e++) {
                    x.envoy(0, 0);
                    counts("envoys", x, e + 1, 19, 0, 0, 0, 1, 0, 0);
                }
                x.set(1, 18);
                counts("the stone", x, 5, 19, 18, 0, 0, 1, 0, 0);
                x.set(0, 3);
                counts("three places", x, 5, 3, 0, 0, 0, 1, 0, 0);
                for (int t = 1; t < 6; t++) {
                    text(x, "allows 1;worth 2;price 3;");
                    x.force(t);
                    counts("texts", x, 5, 3, 0, 0, 0, t + 1, t, 0);
                }
                x.force(4);
                x.move(2, 0);
                counts("a move", x, 5, 3, 2, 1, 1, 6, 4, 0);
                for (int k = 0; k < 32; k++) {
                    x.feed(5, 0, 0, 0, 0, 0);
                }
                counts("a full tape", x, 5, 3, 2, 1, 1, 6, 4, 160);
                moves(x, 60);
                counts("all moves", x, 5, 3, 2, 60, 60, 6, 4, 160);
            });
        sentence(2, "BAD.", () -> {
            Used x = plain(2);
            for (int what : new int[] {-1, 8, -2, 9, 256, MIN, MAX}) {
                due("count(" + what + ")", x.count(what), BAD);
            }
            due("count(0)", x.count(0), 2);
            due("count(7)", x.count(7), 0);
        });
    }

    private static void counts(String when, Used x, int... want) {
        for (int i = 0; i < 8; i++) {
            due("count(" + i + "), " + when, x.count(i), want[i]);
        }
    }

    private static void set() {
        sentence(3, "PLACES (what 0; THE STONE comes to its PLACE modulo as many)", () -> {
            int[][] stones = {{0, 3, 0}, {2, 3, 2}, {3, 3, 0}, {4, 3, 1}, {18, 3, 0}, {17, 3, 2}, {18, 18, 0},
                {17, 18, 17}, {18, 19, 18}, {18, 10, 8}, {9, 9, 0}, {8, 9, 8}};
            for (int[] s : stones) {
                Used x = new Used();
                x.set(1, s[0]);
                due("set(0, " + s[1] + ")", x.set(0, s[1]), 19);
                due("the stone of " + s[0] + " modulo " + s[1], x.count(2), s[2]);
                due("as many as they are again", x.set(0, s[1]), s[1]);
                due("the stone stays", x.count(2), s[2]);
                due("more places", x.set(0, 19), s[1]);
                due("the stone stays", x.count(2), s[2]);
            }
        });
        sentence(3, ", where THE STONE is (1) becomes v: what it was.", () -> {
            Used x = plain(1);
            due("set(1, 18)", x.set(1, 18), 0);
            due("set(1, 0)", x.set(1, 0), 18);
            due("set(1, 7)", x.set(1, 7), 0);
            due("set(1, 7)", x.set(1, 7), 7);
            due("the stone", x.count(2), 7);
            due("a move from there", x.move(2, 3), 9);
            due("set(1, 4) with moves", x.set(1, 4), 9);
            due("a move from there", x.move(1, 3), 5);
            due("no move more", x.count(4), 2);
        });
        sentence(3, "-5: what", () -> {
            for (int what : new int[] {-1, 2, 3, 256, MIN, MAX}) {
                due("set(" + what + ", 5)", new Used().set(what, 5), -5);
                due("set(" + what + ", -1)", new Used().set(what, -1), -5);
                refused("set(" + what + ", 5)", States::rich, x -> x.set(what, 5), -5);
            }
        });
        sentence(3, "-7: v", () -> {
            for (int v : new int[] {2, 20, 0, -1, MIN, MAX}) {
                refused("set(0, " + v + ")", States::bare, x -> x.set(0, v), -7);
                refused("set(0, " + v + "), ahead of STATE", States::rich, x -> x.set(0, v), -7);
            }
            // the rich one has 12 places, the bare one 19
            for (int v : new int[] {19, -1, MIN, MAX}) {
                refused("set(1, " + v + ")", States::bare, x -> x.set(1, v), -7);
            }
            for (int v : new int[] {12, -1, 18, MIN, MAX}) {
                refused("set(1, " + v + ")", States::rich, x -> x.set(1, v), -7);
            }
            due("the last one that is taken", States.bare().set(1, 18), 0);
            due("the last one that is taken", States.rich().set(1, 11) >= 0 ? 1 : 0, 1);
        });
        sentence(3, "STATE: PLACES, and there are MOVES.", () -> {
            Used y = plain(2);
            due("envoys, no moves", y.set(0, 5), 19);
            y.image();
            due("a move", y.move(1, 3), 1);
            due("one move", y.set(0, 7), STATE);
            due("as many as there are", y.set(0, 5), STATE);
            due("places", y.count(1), 5);
            due("where the stone is", y.set(1, 4), 1);
            y.back();
            due("no moves again", y.set(0, 7), 5);
            for (int v : new int[] {3, 12, 19}) {
                refused("set(0, " + v + ")", States::rich, x -> x.set(0, v), STATE);
                refused("set(0, " + v + ")", States::full, x -> x.set(0, v), STATE);
            }
        });
    }

    private static void force() {
        sentence(6, "A TEXT is THE LAW: which was.", () -> {
            Used x = plain(1);
            due("the law that is", x.force(0), 0);
            for (int t = 1; t < 6; t++) {
                text(x, "allows 1;worth 1" + t + ";price " + t + ";");
                due("a text alone is no law", x.count(6), 0);
            }
            int was = 0;
            for (int t : new int[] {5, 1, 4, 4, 2, 3}) {
                due("force(" + t + ")", x.force(t), was);
                due("the law", x.count(6), t);
                due("worth by text " + t, x.asks(1, 0, 4, 5), 10 + t);
                was = t;
            }
            due("force(0)", x.force(0), 3);
            due("worth by text 0", x.asks(1, 0, 4, 5), 4);
        });
        sentence(6, "BAD.", () -> {
            due("one text", new Used().force(1), BAD);
            due("one text", new Used().force(-1), BAD);
            Used y = new Used();
            text(y, "allows 1;worth 2;price 3;");
            due("two texts", y.force(2), BAD);
            due("two texts", y.force(1), 0);
            due("a fault makes none", text(y, "allows 1;"), -109);
            due("two texts", y.force(2), BAD);
            for (int t : new int[] {-1, 3, 6, MIN, MAX}) {
                refused("force(" + t + ")", States::rich, x -> x.force(t), BAD);
            }
            for (int t : new int[] {-1, 6, 7}) {
                refused("force(" + t + ")", States::full, x -> x.force(t), BAD);
            }
            due("the last text", States.full().force(5) >= 0 ? 1 : 0, 1);
        });
    }

    private static void asks() {
        sentence(7, "What part 0 allows (1, 0), 1 worth, 2 price says of an ENVOY", () -> {
            Used x = with(0, 3, 0, 5);
            law(x, "allows more = 3;worth more*10;price more+50;");
            due("allows of 0", x.asks(0, 0, 4, 0), 1);
            due("allows of 1", x.asks(0, 1, 4, 0), 0);
            due("worth of 0", x.asks(1, 0, 4, 0), 30);
            due("worth of 1", x.asks(1, 1, 4, 0), 50);
            due("price of 0", x.asks(2, 0, 4, 0), 53);
            due("price of 1", x.asks(2, 1, 4, 0), 55);
            law(x, "allows 0-7;worth 0;price 0;");
            due("what is not 0 is 1", x.asks(0, 0, 4, 0), 1);
        });
        sentence(7, "(reasonStep: 10 times reason, and step and 4; at: a PLACE).", () -> {
            Used x = plain(2);
            law(x, "allows stone=18;worth reason*10+step+4;price stone;");
            for (int rs = -11; rs <= 49; rs++) {
                boolean such = rs >= 0 && rs <= 38 && rs != 9 && rs != 19 && rs != 29;
                due("reasonStep " + rs, x.asks(1, 1, rs, 5), such ? rs : -1000);
            }
            for (int p = -2; p <= 20; p++) {
                boolean such = p >= 0 && p <= 18;
                due("at " + p, x.asks(2, 1, 38, p), such ? p : -1000);
                due("at " + p, x.asks(0, 0, 0, p), p == 18 ? 1 : such ? 0 : -1000);
            }
            x.set(0, 5);
            due("at 4 of 5", x.asks(2, 1, 4, 4), 4);
            due("at 5 of 5", x.asks(2, 1, 4, 5), -1000);
            x.set(0, 3);
            due("at 2 of 3", x.asks(2, 1, 4, 2), 2);
            due("at 3 of 3", x.asks(2, 1, 4, 3), -1000);
        });
        sentence(7, "-1000: none such.", () -> {
            due("no envoys", new Used().asks(0, 0, 4, 0), -1000);
            for (int m = 1; m <= 5; m++) {
                Used x = plain(m);
                due("the last envoy", x.asks(2, m - 1, 4, 0), 3);
                due("behind the last envoy", x.asks(2, m, 4, 0), -1000);
                due("envoy -1", x.asks(2, -1, 4, 0), -1000);
            }
            Used x = plain(2);
            for (int v : new int[] {-1, 3, 4, -2, 256, MIN, MAX}) {
                due("part " + v, x.asks(v, 0, 4, 0), -1000);
            }
            for (int v : new int[] {-1, 2, 5, MIN, MAX}) {
                due("envoy " + v, x.asks(0, v, 4, 0), -1000);
            }
            for (int v : new int[] {-1, -10, 9, 40, 44, 104, 1000, MIN, MIN + 4, MAX}) {
                due("reasonStep " + v, x.asks(2, 0, v, 0), -1000);
            }
            for (int v : new int[] {-1, 19, 20, MIN, MAX}) {
                due("at " + v, x.asks(2, 0, 4, v), -1000);
            }
            due("as they are", x.asks(2, 1, 38, 18), 3);
        });
    }
}
