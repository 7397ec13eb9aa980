/** Envoys: promises 8 to 11, and the terms on which they rest. */
final class EdgeEnvoy extends Edge {
    private static final int[][] FAR = {{0, 2, 2}, {1, 3, 4}, {2, 2, 2}, {3, 3, 4}, {4, 1, 1}, {5, 1, 1}};
    private static final int[] WRONG = {-1, 6, 7, 256, -256, MIN, MAX};

    static void run() {
        terms();
        kinds();
        envoy();
        hope();
        told();
        winner();
    }

    private static void terms() {
        sentence(TERMS, "ENVOYS are numbered from 0 on, 5 at most", () -> {
            Used x = new Used();
            for (int e = 0; e < 5; e++) {
                due("no envoy " + e, x.told(e, 0), -5);
                due("envoy", x.envoy(e, e), e);
                due("envoys", x.count(0), e + 1);
                due("kind of " + e, x.told(e, 0), e);
            }
            due("a sixth", x.envoy(0, 0), FULL);
            due("envoys", x.count(0), 5);
            due("no envoy 5", x.told(5, 0), -5);
            due("no envoy -1", x.told(-1, 0), -5);
        });
        sentence(TERMS, ": of a KIND, with MORE (0 .. 9)", () -> {
            for (int kind = 0; kind < 6; kind++) {
                for (int more = 0; more < 10; more++) {
                    Used x = with(kind, more);
                    due("kind", x.told(0, 0), kind);
                    due("more", x.told(0, 1), more);
                }
                due("more 10", new Used().envoy(kind, 10), BAD);
                due("more -1", new Used().envoy(kind, -1), BAD);
            }
        });
        sentence(TERMS, "; a WISH: an ENVOY; a LAST REASON (0 .. 3; none as one comes); a CARD, SHOWN or not (not).", () -> {
            Used x = with(0, 0, 5, 9, 3, 3);
            for (int e = 0; e < 3; e++) {
                due("the wish", x.told(e, 2), (e + 1) % 3);
                due("no last reason", x.told(e, 3), -1);
                due("no card shown", x.told(e, 5), 0);
            }
            for (int reason = 0; reason < 4; reason++) {
                Used y = plain(1);
                y.move(1, reason);
                due("the last reason", y.told(0, 3), reason);
            }
            x.move(1, 0);
            x.call(1, 0);
            due("a card shown", x.told(0, 5) + x.told(1, 5), 1);
            // one that comes where one was before has none of that one's
            Used z = new Used();
            z.image();
            z.envoy(0, 0);
            z.envoy(0, 0);
            z.move(1, 2);
            z.call(1, 0);
            z.back();
            z.envoy(0, 0);
            z.envoy(0, 0);
            for (int e = 0; e < 2; e++) {
                due("no last reason", z.told(e, 3), -1);
                due("no card shown", z.told(e, 5), 0);
                due("the wish", z.told(e, 2), 1 - e);
            }
        });
        sentence(TERMS, "As one comes the WISH of the one ahead, if it is ENVOY 0, becomes the one that comes; one's own is"
            + " ENVOY 0.", () -> {
                int[][] wishes = {{0}, {1, 0}, {1, 2, 0}, {1, 2, 3, 0}, {1, 2, 3, 4, 0}};
                Used x = new Used();
                for (int m = 1; m <= 5; m++) {
                    x.envoy(0, 0);
                    for (int e = 0; e < m; e++) {
                        due("wish of " + e + " of " + m, x.told(e, 2), wishes[m - 1][e]);
                    }
                }
                x.envoy(0, 0);
                due("a sixth that does not come changes no wish", x.told(4, 2), 0);
                Used y = plain(3);
                due("another wish", y.hope(2, 1), 0);
                y.envoy(0, 0);
                due("one that is not ENVOY 0 stays", y.told(2, 2), 1);
                due("the one that comes", y.told(3, 2), 0);
                due("of the one further ahead", y.hope(1, 0), 2);
                y.envoy(0, 0);
                due("the one ahead alone", y.told(1, 2), 0);
                due("the one ahead", y.told(3, 2), 4);
                Used z = plain(2);
                z.envoy(6, 0);
                z.envoy(0, 10);
                due("one that is refused changes no wish", z.told(1, 2), 0);
            });
        sentence(TERMS, "HOME of ENVOY e of m: PLACE e times n by m (cut).", () -> {
            for (int m = 1; m <= 5; m++) {
                for (int n = 3; n <= 19; n++) {
                    Used x = plain(m);
                    x.set(0, n);
                    for (int e = 0; e < m; e++) {
                        int home = 0;
                        while ((home + 1) * m <= e * n) {
                            home++;
                        }
                        due("home of " + e + " of " + m + " on " + n, x.told(e, 6), home);
                    }
                }
            }
            homes(3, 0, 0, 1, 1, 2);
            homes(19, 0, 3, 7, 11, 15);
            homes(4, 0, 1, 2);
            homes(19, 0);
            homes(19, 0, 9);
        });
    }

    private static void homes(int n, int... homes) {
        Used x = plain(homes.length);
        x.set(0, n);
        for (int e = 0; e < homes.length; e++) {
            due("home of " + e + " of " + homes.length + " on " + n, x.told(e, 6), homes[e]);
        }
    }

    /** Whether one of a kind is bound by a reason: by a law that allows nothing all steps are gone then. */
    private static boolean isBound(int kind, int more, int reason) {
        Used x = with(kind, more);
        law(x, "allows 0;worth 0;price 0;");
        int free = x.steps();
        due("some steps", free > 0 ? 1 : 0, 1);
        x.move(1, reason);
        int then = x.steps();
        due("all steps or none", then == 0 || then == free ? 1 : 0, 1);
        return then == 0;
    }

    private static void bound(int kind, int more, int... reasons) {
        for (int reason = 0; reason < 4; reason++) {
            boolean is = false;
            for (int r : reasons) {
                is |= r == reason;
            }
            due("kind " + kind + ", more " + more + " bound by " + reason, isBound(kind, more, reason) ? 1 : 0, is ? 1 : 0);
        }
    }

    private static void far(int kind, int more, int far, int steps) {
        Used x = with(kind, more);
        due("how far kind " + kind + " goes with " + more, x.told(0, 4), far);
        due("the steps of kind " + kind + " with " + more, x.steps(), steps);
    }

    private static void kinds() {
        sentence(TERMS, "KINDS: how far one GOES at most, either way; by which REASONS one is BOUND; whether one may STAY (go"
            + " 0). 0 ENVOY: 2; by any; yes.", () -> {
                for (int more = 0; more < 10; more++) {
                    far(0, more, 2, stepBits(-2, -1, 0, 1, 2));
                    bound(0, more, 0, 1, 2, 3);
                }
            });
        sentence(TERMS, "1 BOLD (an ENVOY): 1 and MORE by 9 (cut) further.", () -> {
            for (int more = 0; more < 9; more++) {
                far(1, more, 3, stepBits(-3, -2, -1, 0, 1, 2, 3));
            }
            far(1, 9, 4, stepBits(-4, -3, -2, -1, 0, 1, 2, 3, 4));
        });
        sentence(TERMS, "2 SLY (an ENVOY): not by REASON (MORE modulo 4).", () -> {
            bound(2, 0, 1, 2, 3);
            bound(2, 1, 0, 2, 3);
            bound(2, 2, 0, 1, 3);
            bound(2, 3, 0, 1, 2);
            bound(2, 4, 1, 2, 3);
            bound(2, 5, 0, 2, 3);
            bound(2, 6, 0, 1, 3);
            bound(2, 7, 0, 1, 2);
            bound(2, 8, 1, 2, 3);
            bound(2, 9, 0, 2, 3);
        });
        sentence(TERMS, "3 RASH (a BOLD): may not STAY.", () -> {
            for (int more = 0; more < 9; more++) {
                far(3, more, 3, stepBits(-3, -2, -1, 1, 2, 3));
            }
            far(3, 9, 4, stepBits(-4, -3, -2, -1, 1, 2, 3, 4));
            Used x = with(3, 0);
            x.move(0, 3);
            due("to stay breaks", x.moved(0, 4), 1);
            due("bound by 3, which allows to stay: not by its kind", x.steps(), stepBits(-3, -2, -1, 1, 2, 3));
        });
        sentence(TERMS, "4 OLD (a SLY): GOES 1 less far; BOUND by none, if MORE is 5 or more, else just by such REASONS above 1"
            + " as bind a SLY.", () -> {
                for (int more = 0; more < 10; more++) {
                    far(4, more, 1, stepBits(-1, 0, 1));
                }
                bound(4, 0, 2, 3);
                bound(4, 1, 2, 3);
                bound(4, 2, 3);
                bound(4, 3, 2);
                bound(4, 4, 2, 3);
                for (int more = 5; more < 10; more++) {
                    bound(4, more);
                }
            });
        sentence(TERMS, "5 SHY (an ENVOY): GOES 1 at most.", () -> {
            for (int more = 0; more < 10; more++) {
                far(5, more, 1, stepBits(-1, 0, 1));
            }
        });
        sentence(TERMS, "(Whatever isn't told is as of the KIND above.)", () -> {
            for (int more = 0; more < 10; more++) {
                bound(1, more, 0, 1, 2, 3);
                bound(3, more, 0, 1, 2, 3);
                bound(5, more, 0, 1, 2, 3);
                far(2, more, 2, stepBits(-2, -1, 0, 1, 2));
            }
            // a BOLD, a SLY, an OLD, a SHY may STAY
            for (int kind : new int[] {1, 2, 4, 5}) {
                Used x = with(kind, 9);
                x.move(0, 0);
                due("kind " + kind + " may stay", x.moved(0, 4), 0);
            }
        });
    }

    private static void envoy() {
        sentence(8, "An ENVOY: the number.", () -> {
            Used x = new Used();
            for (int e = 0; e < 5; e++) {
                due("envoy", x.envoy(5 - e, 9 - e), e);
                due("kind", x.told(e, 0), 5 - e);
                due("more", x.told(e, 1), 9 - e);
            }
            due("the last kind, the last more", new Used().envoy(5, 9), 0);
            due("the first kind, more 0", new Used().envoy(0, 0), 0);
        });
        sentence(8, "BAD", () -> {
            for (int v : WRONG) {
                int more = v == 6 || v == 7 ? v + 4 : v;
                refused("envoy(" + v + ", 0)", States::alone, x -> x.envoy(v, 0), BAD);
                refused("envoy(0, " + more + ")", States::alone, x -> x.envoy(0, more), BAD);
                due("ahead of STATE", States.rich().envoy(v, 0), BAD);
                due("ahead of FULL", plain(5).envoy(0, more), BAD);
            }
            refused("envoy(6, 10)", States::bare, x -> x.envoy(6, 10), BAD);
        });
        sentence(8, "STATE: there are MOVES", () -> {
            Used y = plain(1);
            y.image();
            y.move(0, 0);
            due("one move", y.envoy(0, 0), STATE);
            y.back();
            due("no move again", y.envoy(0, 0), 1);
            due("a breaking move is a move, too", y.move(4, 0), 4);
            due("one move", y.envoy(0, 0), STATE);
            refused("envoy(0, 0)", States::rich, x -> x.envoy(0, 0), STATE);
            refused("envoy(5, 9), ahead of FULL", States::full, x -> x.envoy(5, 9), STATE);
        });
        sentence(8, "FULL.", () -> {
            refused("a sixth", () -> plain(5), x -> x.envoy(0, 0), FULL);
            refused("a sixth", () -> plain(5), x -> x.envoy(5, 9), FULL);
            due("a fifth", plain(4).envoy(5, 9), 4);
            Used y = plain(4);
            y.image();
            due("a fifth", y.envoy(0, 0), 4);
            due("a sixth", y.envoy(0, 0), FULL);
            y.back();
            due("a fifth again", y.envoy(0, 0), 4);
        });
    }

    private static void hope() {
        sentence(9, "An ENVOY's WISH becomes another one (alone: oneself): which it was.", () -> {
            Used x = plain(1);
            due("alone, oneself", x.hope(0, 0), 0);
            due("the wish", x.told(0, 2), 0);
            x.envoy(0, 0);
            due("of two", x.hope(0, 1), 1);
            due("of two", x.hope(1, 0), 0);
            for (int e = 2; e < 5; e++) {
                x.envoy(0, 0);
            }
            due("the last one", x.hope(0, 4), 1);
            due("what it was", x.hope(0, 1), 4);
            due("the first one", x.hope(4, 0), 0);
            due("the one ahead", x.hope(4, 3), 0);
            due("the wish", x.told(4, 2), 3);
            due("no other's", x.told(3, 2), 4);
            x.move(1, 1);
            due("with moves", x.hope(0, 2), 1);
            x.call(1, 0);
            due("with a card shown", x.hope(1, 3), 2);
        });
        sentence(9, "-5: no such ENVOY", () -> {
            refused("hope(0, 0) of none", States::bare, x -> x.hope(0, 0), -5);
            for (int e : new int[] {-1, 3, 4, 5, MIN, MAX}) {
                refused("hope(" + e + ", 1)", States::rich, x -> x.hope(e, 1), -5);
                refused("hope(" + e + ", 9), ahead of WISH", States::rich, x -> x.hope(e, 9), -5);
            }
            refused("hope(5, 0)", States::full, x -> x.hope(5, 0), -5);
            due("the last one", States.full().hope(4, 3), 0);
        });
        sentence(9, "-7: WISH.", () -> {
            for (int w : new int[] {1, -1, 2, MIN, MAX}) {
                refused("alone, hope(0, " + w + ")", States::alone, x -> x.hope(0, w), -7);
            }
            for (int e = 0; e < 3; e++) {
                int oneself = e;
                refused("hope(" + e + ", oneself)", States::rich, x -> x.hope(oneself, oneself), -7);
                for (int w : new int[] {-1, 3, 5, MIN, MAX}) {
                    refused("hope(" + e + ", " + w + ")", States::rich, x -> x.hope(oneself, w), -7);
                }
            }
            due("of two, oneself", plain(2).hope(0, 0), -7);
            due("of two, oneself", plain(2).hope(1, 1), -7);
            refused("hope(0, 5) of five", States::full, x -> x.hope(0, 5), -7);
        });
    }

    private static void told() {
        sentence(10, "Of an ENVOY what 0 KIND, 1 MORE, 2 WISH, 3 LAST REASON (-1: none), 4 how far one GOES at most, 5 whether"
            + " the CARD is SHOWN (1, 0), 6 HOME.", () -> {
                for (int[] f : FAR) {
                    for (int more = 0; more < 10; more++) {
                        Used x = with(0, 0, f[0], more, 0, 0);
                        told(x, 1, f[0], more, 2, -1, more == 9 ? f[2] : f[1], 0, 6);
                    }
                }
                Used x = with(1, 9, 4, 5);
                told(x, 0, 1, 9, 1, -1, 4, 0, 0);
                told(x, 1, 4, 5, 0, -1, 1, 0, 9);
                x.move(4, 3);
                told(x, 0, 1, 9, 1, 3, 4, 0, 0);
                x.move(-1, 0);
                told(x, 1, 4, 5, 0, 0, 1, 0, 9);
                // from 0 to 4 was towards 9: the caller's card
                due("call(1, 0)", x.call(1, 0), 1);
                told(x, 0, 1, 9, 1, 3, 4, 0, 0);
                told(x, 1, 4, 5, 0, 0, 1, 1, 9);
            });
        sentence(10, "-5: no such ENVOY", () -> {
            for (int m = 0; m <= 5; m++) {
                Used x = plain(m);
                for (int what = -1; what <= 7; what++) {
                    due("told(" + m + ", " + what + ") of " + m, x.told(m, what), -5);
                    due("told(-1, " + what + ")", x.told(-1, what), -5);
                }
                due("told(MIN, 0)", x.told(MIN, 0), -5);
                due("told(MAX, 0)", x.told(MAX, 0), -5);
                due("the last one", m == 0 ? 0 : x.told(m - 1, 0), 0);
            }
        });
        sentence(10, "-7: what.", () -> {
            Used x = plain(2);
            for (int what : new int[] {-1, 7, -2, 8, 256, MIN, MAX}) {
                due("told(0, " + what + ")", x.told(0, what), -7);
                due("told(1, " + what + ")", x.told(1, what), -7);
            }
            due("the first what", x.told(1, 0), 0);
            due("the last what", x.told(1, 6), 9);
        });
    }

    private static void told(Used x, int e, int... want) {
        for (int what = 0; what < 7; what++) {
            due("told(" + e + ", " + what + ")", x.told(e, what), want[what]);
        }
    }

    private static void winners(int n, int envoys, int... want) {
        Used x = plain(envoys);
        x.set(0, n);
        for (int p = 0; p < n; p++) {
            due("winner(" + p + ") of " + envoys + " on " + n, x.winner(p), want[p]);
        }
        due("winner(" + n + ")", x.winner(n), BAD);
        due("winner(-1)", x.winner(-1), BAD);
    }

    private static void winner() {
        sentence(TERMS, "THE WINNER, THE STONE being on a PLACE: the ENVOY whose HOME is least APART from it, of like ones the"
            + " first.", () -> {
                // HOMES 0; 0 1; 0 2; 0 2; 0 3
                winners(3, 1, 0, 0, 0);
                winners(3, 2, 0, 1, 0);
                winners(4, 2, 0, 0, 1, 0);
                winners(5, 2, 0, 0, 1, 1, 0);
                winners(6, 2, 0, 0, 1, 1, 1, 0);
                // HOMES 0, 3, 6: places 1.5 are none, so no like ones
                winners(9, 3, 0, 0, 1, 1, 1, 2, 2, 2, 0);
                // HOMES 0, 4, 8: 2, 6, 10 are like apart of two
                winners(12, 3, 0, 0, 0, 1, 1, 1, 1, 2, 2, 2, 0, 0);
                // HOMES 0, 0, 1, 1, 2: two of one HOME, the first
                winners(3, 5, 0, 2, 4);
                // HOMES 0, 3, 7, 11, 15
                winners(19, 5, 0, 0, 1, 1, 1, 1, 2, 2, 2, 2, 3, 3, 3, 3, 4, 4, 4, 0, 0);
            });
        sentence(11, "THE WINNER, THE STONE being on a PLACE.", () -> {
            Used x = plain(2);
            for (int p = 0; p < 19; p++) {
                due("winner(" + p + ")", x.winner(p), p <= 4 || p >= 14 ? 0 : 1);
                due("the stone stays", x.count(2), 0);
            }
            x.set(1, 9);
            due("not where the stone is", x.winner(0), 0);
        });
        sentence(11, "BAD", () -> {
            for (int p : new int[] {-1, 19, 20, MIN, MAX}) {
                due("winner(" + p + ")", plain(2).winner(p), BAD);
                due("winner(" + p + ") of none", new Used().winner(p), BAD);
            }
            due("winner(18)", plain(2).winner(18), 0);
            Used x = plain(1);
            for (int n = 3; n < 19; n++) {
                x.set(0, n);
                due("winner(" + n + ") on " + n, x.winner(n), BAD);
                due("winner(" + (n - 1) + ") on " + n, x.winner(n - 1), 0);
            }
        });
        sentence(11, "NONE: no ENVOYS.", () -> {
            due("winner(0)", new Used().winner(0), NONE);
            due("winner(18)", new Used().winner(18), NONE);
            due("of one", plain(1).winner(18), 0);
            Used x = new Used();
            x.image();
            x.envoy(0, 0);
            x.back();
            due("none again", x.winner(0), NONE);
        });
    }
}
