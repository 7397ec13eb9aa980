/** Games by lots, images: promises 31 to 34, and the terms on which they rest. */
final class EdgeLots extends Edge {
    static void run() {
        terms();
        drawn();
        odds();
        imageTerms();
        image();
        back();
    }

    /** Lot k, from 0, of a seed: one factor at a time. */
    private static long lot(int seed, int k) {
        long lot = seed + 1;
        for (int i = 0; i <= k; i++) {
            lot = lot * 48271 % 2147483647;
        }
        return lot;
    }

    /** A law by which a reason and a step come out as a place: so a lot's steps and reasons can be seen. */
    private static Used by(String allows, int... kindsAndMores) {
        Used x = with(kindsAndMores);
        law(x, "allows " + allows + ";worth 0;price 0;");
        return x;
    }

    private static void terms() {
        sentence(TERMS, "GAMES by a SEED (0 .. 99999), in thought: for each MOVE a LOT: of the steps that MAY be gone, from -4 on, number"
            + " (LOT modulo how many there are) from 0", () -> {
                int[] seeds = {0, 1, 2, 3, 4, 5, 6, 7, 8, 9, 10, 11, 12, 13, 14, 99990, 99996, 99998, 99999};
                int[][] kinds = {{0, 0, -2, -1, 0, 1, 2}, {1, 0, -3, -2, -1, 0, 1, 2, 3}, {1, 9, -4, -3, -2, -1, 0, 1, 2, 3, 4},
                    {3, 0, -3, -2, -1, 1, 2, 3}, {3, 9, -4, -3, -2, -1, 1, 2, 3, 4}, {5, 0, -1, 0, 1}};
                for (int[] k : kinds) {
                    Used x = with(k[0], k[1]);
                    for (int seed : seeds) {
                        int step = k[2 + (int) (lot(seed, 0) % (k.length - 2))];
                        due("one move by " + seed + " of kind " + k[0], x.drawn(seed, 1, 0), (step + 19) % 19);
                    }
                }
                // bound: of the steps that the law leaves
                Used x = by("step=-2 or step=0 or step=1", 0, 0);
                x.move(4, 1);
                int[] left = {-2, 0, 1};
                for (int seed : seeds) {
                    due("bound, by " + seed, x.drawn(seed, 1, 0), 4 + left[(int) (lot(seed, 0) % 3)]);
                }
                // two of them, the third of three to the left
                Used y = plain(3);
                y.set(1, 9);
                for (int seed : seeds) {
                    int a = (int) (lot(seed, 0) % 5) - 2;
                    int b = (int) (lot(seed, 1) % 5) - 2;
                    int c = (int) (lot(seed, 2) % 5) - 2;
                    due("two moves by " + seed, y.drawn(seed, 2, 0), 9 + a + b);
                    due("three moves by " + seed, y.drawn(seed, 3, 0), 9 + a + b - c);
                }
                // from now on: in turn 1, so that the second is to the left
                Used now = by("1", 0, 0);
                now.set(1, 9);
                now.move(0, 0);
                for (int seed : seeds) {
                    int a = (int) (lot(seed, 0) % 5) - 2;
                    int b = (int) (lot(seed, 1) % 5) - 2;
                    due("one move in turn 1 by " + seed, now.drawn(seed, 1, 0), 9 + a);
                    due("two moves from turn 1 on by " + seed, now.drawn(seed, 2, 0), 9 + a - b);
                }
                asking("games", States::rich, z -> z.drawn(5, 40, 0) + z.odds(7, 4050, 1, 0));
                asking("games", States::full, z -> z.drawn(5, 40, 0) + z.odds(7, 4050, 1, 0));
            });
        sentence(TERMS, "; none: 0", () -> {
            Used x = by("0", 0, 0, 0, 0);
            x.move(2, 0);
            x.move(1, 1);
            for (int n = 0; n <= 40; n++) {
                due("all bound", x.drawn(n, n, 0), 3);
            }
            Used y = by("0", 3, 0);
            y.move(2, 0);
            due("a rash one stays then, too", y.drawn(3, 40, 0), 2);
            // it is a MOVE, with the REASON of its LOT: by 3 one is free then
            Used z = by("reason=3", 0, 0);
            z.set(1, 9);
            for (int seed = 0; seed < 40; seed++) {
                int place = 9;
                long last = 3;
                for (int k = 0; k < 3; k++) {
                    int step = last == 3 ? (int) (lot(seed, k) % 5) - 2 : 0;
                    place += k == 2 ? -step : step;
                    last = lot(seed, k) / 16 % 4;
                    due("move " + k + " by " + seed, z.drawn(seed, k + 1, 0), place);
                }
            }
        });
        sentence(TERMS, "; REASON (LOT by 16, cut) modulo 4.", () -> {
            for (int reason = 0; reason < 4; reason++) {
                // bound by this reason one goes 2, by another one 1
                Used x = by("step=1+(reason=" + reason + ")", 0, 0);
                x.set(1, 9);
                for (int seed = 0; seed < 40; seed++) {
                    int first = (int) (lot(seed, 0) % 5) - 2;
                    int second = lot(seed, 0) / 16 % 4 == reason ? 2 : 1;
                    due("seed " + seed + ", bound by the reason of its first lot", x.drawn(seed, 2, 0), 9 + first + second);
                }
            }
        });
        sentence(TERMS, "LOTS: the first is (SEED and 1) times 48271 modulo 2147483647, each further one the last times 48271 modulo"
            + " 2147483647.", () -> {
                // known by hand: 48271; 48271 * 48271 = 2330089441, less 2147483647 is 182605794; then 182605794 * 48271 modulo it
                Used x = plain(5);
                due("48271 modulo 5 is 1: -1", x.drawn(0, 1, 0), 18);
                due("182605794 modulo 5 is 4: 2", x.drawn(0, 2, 0), 1);
                // 1291394886, the third of the minimal standard by 48271, modulo 5 is 1: -1, to the left
                due("1291394886 modulo 5 is 1", x.drawn(0, 3, 0), 2);
                // 100000 * 48271 = 4827100000, less 2 * 2147483647 is 532132706, modulo 5 is 1: -1
                due("the last seed", x.drawn(99999, 1, 0), 18);
                for (int seed = 0; seed < 60; seed += 7) {
                    int place = 0;
                    for (int k = 0; k < 5; k++) {
                        int step = (int) (lot(seed, k) % 5) - 2;
                        place = (place + (k == 2 ? -step : step) + 19) % 19;
                        due("move " + k + " by " + seed, x.drawn(seed, k + 1, 0), place);
                    }
                }
            });
    }

    private static void drawn() {
        sentence(31, "Behind n (0 .. 40) MOVES by a SEED: where THE STONE is (what 0), THE WINNER (1), how many have that WISH (2).", () -> {
            Used x = plain(5);
            x.set(1, 17);
            due("no moves", x.drawn(99999, 0, 0), 17);
            due("the winner there", x.drawn(99999, 0, 1), 0);
            due("who wish it", x.drawn(99999, 0, 2), 1);
            x.hope(2, 0);
            due("who wish it", x.drawn(99999, 0, 2), 2);
            x.hope(4, 2);
            x.hope(2, 1);
            due("none wishes it", x.drawn(0, 0, 2), 0);
            for (int n = 0; n <= 40; n++) {
                int stone = x.drawn(3, n, 0);
                int winner = x.drawn(3, n, 1);
                int wishers = 0;
                for (int e = 0; e < 5; e++) {
                    wishers += x.told(e, 2) == winner ? 1 : 0;
                }
                due("a place", stone >= 0 && stone < 19 ? 1 : 0, 1);
                due("the winner there", winner, x.winner(stone));
                due("who wish it", x.drawn(3, n, 2), wishers);
            }
            due("the stone", x.count(2), 17);
        });
        sentence(31, "BAD", () -> {
            for (int seed : new int[] {-1, 100000, 100001, MIN, MAX}) {
                due("seed " + seed, plain(1).drawn(seed, 0, 0), BAD);
                due("seed " + seed + " and no envoys", new Used().drawn(seed, 0, 0), BAD);
            }
            for (int n : new int[] {-1, 41, 42, MIN, MAX}) {
                due(n + " moves", plain(1).drawn(0, n, 0), BAD);
                due(n + " moves and no envoys", new Used().drawn(0, n, 0), BAD);
            }
            for (int what : new int[] {-1, 3, 4, 256, MIN, MAX}) {
                due("what " + what, plain(1).drawn(0, 0, what), BAD);
                due("what " + what + " and no envoys", new Used().drawn(0, 0, what), BAD);
            }
            due("the last ones", plain(1).drawn(99999, 40, 2), 1);
            due("the first ones", plain(1).drawn(0, 0, 0), 0);
        });
        sentence(31, "STATE: no ENVOYS.", () -> {
            due("the last ones", new Used().drawn(99999, 40, 2), STATE);
            due("the first ones", new Used().drawn(0, 0, 0), STATE);
            due("one", plain(1).drawn(0, 0, 0), 0);
        });
    }

    private static void odds() {
        sentence(32, "movesSeeds: 100 times how many (0 .. 40) MOVES, and how many (1 .. 50) seeds. In how many of these, SEED and each"
            + " 1 more, an ENVOY's WISH is THE WINNER then: part 0 above, 1 below the line, in lowest terms.", () -> {
                // as many as are drawn, by seeds that are seeds each
                int[][] asked = {{0, 1}, {0, 50}, {1, 1}, {1, 50}, {3, 12}, {7, 49}, {39, 7}, {40, 1}, {40, 50}};
                int[] first = {0, 99950, 17};
                for (int[] a : asked) {
                    Used x = plain(3);
                    for (int seed : first) {
                        int wins = 0;
                        for (int i = 0; i < a[1]; i++) {
                            wins += x.drawn(seed + i, a[0], 1) == 1 ? 1 : 0;
                        }
                        int by = gcd(wins, a[1]);
                        due("odds of " + a[0] + " moves, " + a[1] + " seeds from " + seed, x.odds(seed, 100 * a[0] + a[1], 0, 0),
                            wins / by);
                        due("below the line", x.odds(seed, 100 * a[0] + a[1], 0, 1), a[1] / by);
                    }
                }
                Used x = plain(2);
                due("never: 0", x.odds(0, 50, 0, 0), 0);
                due("never: by 1", x.odds(0, 50, 0, 1), 1);
                due("always: 1", x.odds(0, 50, 1, 0), 1);
                due("always: by 1", x.odds(0, 50, 1, 1), 1);
                x.set(1, 9);
                due("by where the stone is now", x.odds(0, 50, 0, 0), 1);
                due("the last seed alone", x.odds(99999, 1, 0, 0), 1);
            });
        sentence(32, "NO: none such.", () -> {
            Used x = plain(2);
            for (int ms : new int[] {0, -1, 51, 52, 99, 100, 151, 199, 200, 4000, 4051, 4099, 4100, 4101, 4150, 4201, -99, -100,
                -101, -4001, MIN, MAX, MIN + 49}) {
                due("odds of " + ms, x.odds(0, ms, 0, 0), NO);
                due("odds of " + ms, x.odds(0, ms, 0, 1), NO);
            }
            for (int ms : new int[] {1, 50, 101, 150, 4001, 4050}) {
                due("odds of " + ms, x.odds(0, ms, 0, 1) > 0 ? 1 : 0, 1);
            }
            for (int seed : new int[] {-1, 100000, 100001, MIN, MAX}) {
                due("seed " + seed, x.odds(seed, 1, 0, 0), NO);
            }
            for (int e : new int[] {-1, 2, 3, MIN, MAX}) {
                due("envoy " + e, x.odds(0, 1, e, 0), NO);
            }
            for (int part : new int[] {-1, 2, 3, MIN, MAX}) {
                due("part " + part, x.odds(0, 1, 0, part), NO);
            }
            due("no envoys", new Used().odds(0, 1, 0, 0), NO);
            due("no envoys", new Used().odds(0, 1, -1, 1), NO);
            due("the last envoy", plain(5).odds(99999, 4001, 4, 1), 1);
            due("no envoy 5", plain(5).odds(99999, 4001, 5, 1), NO);
        });
    }

    private static int gcd(int a, int b) {
        return b == 0 ? a : gcd(b, a % b);
    }

    private static void imageTerms() {
        sentence(TERMS, "AN IMAGE keeps PLACES, THE STONE, THE TURN, MOVES, WISHES, LAST REASONS, CARDS, how many ENVOYS there are, THE"
            + " LAW.", () -> {
                Used x = new Used();
                x.image();
                x.set(0, 5);
                x.set(1, 4);
                x.back();
                due("PLACES", x.count(1), 19);
                due("THE STONE", x.count(2), 0);
                x.envoy(0, 0);
                x.back();
                due("how many ENVOYS", x.count(0), 0);
                due("no such envoy", x.told(0, 0), -5);
                x.envoy(0, 0);
                x.envoy(0, 0);
                x.envoy(0, 0);
                x.move(1, 2);
                due("0 has moved towards 1", x.call(2, 0), 2);
                text(x, "allows 1;worth 2;price 3;");
                x.image();
                x.force(1);
                x.hope(0, 2);
                due("from 1 to 3", x.move(2, 1), 3);
                // the third turn to the left: from 3 to 0
                due("away from 12, towards 0", x.move(3, 0), 0);
                x.move(4, 3);
                due("2 has moved to 0, its wish", x.call(1, 2), 1);
                x.set(1, 13);
                x.back();
                due("THE STONE", x.count(2), 1);
                due("THE TURN", x.count(3), 1);
                due("MOVES", x.count(4), 1);
                due("the move that is", x.moved(0, 2), 2);
                due("a move that is no more", x.moved(1, 0), -105);
                due("a WISH", x.told(0, 2), 1);
                due("a LAST REASON", x.told(0, 3), 2);
                due("no LAST REASON", x.told(1, 3), -1);
                due("no LAST REASON", x.told(2, 3), -1);
                due("a CARD, not shown", x.told(1, 5), 0);
                due("a CARD, shown", x.told(2, 5), 1);
                due("THE LAW", x.count(6), 0);
                due("whose turn", x.next(), 1);
                due("no move breaks", x.broken(-1, 0), -1);
                due("what 1 can wish", x.may(1), 5);
                due("1 has made no move", x.call(0, 1), STATE);
                // what it does not keep stays as it is
                due("TEXTS", x.count(5), 2);
                tape(x, "abc");
                x.sheet(0, 0, 2);
                x.back();
                due("THE TAPE", x.count(7), 3);
                due("SHEETS", x.judge(0), -1);
                due("moves go on from there", x.move(-1, 1), 0);
                due("the second move", x.moved(1, 1), -1);
            });
    }

    private static void image() {
        sentence(33, "AN IMAGE is kept: how many ENVOYS.", () -> {
            Used x = new Used();
            due("none", x.image(), 0);
            for (int e = 0; e < 5; e++) {
                x.envoy(0, 0);
                due("envoys", x.image(), e + 1);
            }
            x.set(1, 5);
            x.image();
            x.set(1, 6);
            x.back();
            due("the last one that was kept", x.count(2), 5);
            due("it changes nothing", x.count(0), 5);
            asking("an image that was kept", States::full, y -> {
                y.back();
                // the same image again, and what it keeps is made again
                y.image();
                return fullAgain(y);
            });
        });
    }

    /** What States.full() does behind its image, but for texts, bytes and sheets. */
    private static long fullAgain(Used x) {
        for (int e = 0; e < 5; e++) {
            x.envoy(e, 9 - e);
        }
        x.force(3);
        for (int k = 0; k < 60; k++) {
            x.move(k % 5 - 2, k % 4);
        }
        return 0;
    }

    private static void back() {
        sentence(34, "All that it keeps is as in THE IMAGE, ENVOYS that came since are none: how many there are.", () -> {
            for (int m = 0; m <= 5; m++) {
                Used x = plain(m);
                due("envoys", x.image(), m);
                for (int e = m; e < 5; e++) {
                    x.envoy(1, 9);
                }
                x.move(1, 1);
                due("back", x.back(), m);
                due("envoys", x.count(0), m);
                due("moves", x.count(4), 0);
                due("one that came since", x.told(m, 0), -5);
                due("the last one's wish", m == 0 ? 0 : x.told(m - 1, 2), 0);
                due("back again", x.back(), m);
                if (m < 5) {
                    due("another one", x.envoy(5, 3), m);
                    due("its kind", x.told(m, 0), 5);
                    due("its more", x.told(m, 1), 3);
                    due("its last reason", x.told(m, 3), -1);
                    due("back again", x.back(), m);
                }
            }
            // the image stays as it was kept, whatever comes behind it
            Used y = plain(2);
            y.image();
            for (int k = 0; k < 3; k++) {
                y.set(1, 3 + k);
                y.move(k, k);
                y.call(1, 0);
                due("back", y.back(), 2);
                due("the stone", y.count(2), 0);
                due("the last reason", y.told(0, 3), -1);
                due("the card", y.told(1, 5), 0);
            }
            // full, back to the last but one move
            Used z = plain(1);
            moves(z, 59);
            z.image();
            due("the last", z.move(4, 2), z.count(2));
            due("full", z.move(0, 0), FULL);
            z.back();
            due("moves", z.count(4), 59);
            due("the last again", z.move(1, 1), z.count(2));
            due("its step", z.moved(59, 1), 1);
        });
        sentence(34, "STATE: there is none.", () -> {
            due("a new one", new Used().back(), STATE);
            refused("back()", () -> moved(), x -> x.back(), STATE);
            Used x = new Used();
            x.image();
            due("one of none", x.back(), 0);
            due("another object's is not this one's", new Used().back(), STATE);
        });
    }

    private static Used moved() {
        Used x = plain(3);
        x.move(1, 3);
        x.move(1, 3);
        x.call(0, 1);
        return x;
    }
}
