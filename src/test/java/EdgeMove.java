/** Moves: promises 12 to 16, and the terms on which they rest. */
final class EdgeMove extends Edge {
    static void run() {
        terms();
        next();
        steps();
        move();
        moved();
        broken();
    }

    private static void goes(int n, int from, int turn, int step, int to) {
        Used x = plain(2);
        x.set(0, n);
        for (int k = 0; k < turn; k++) {
            x.move(0, 3);
        }
        x.set(1, from);
        due("from " + from + " of " + n + " a step " + step + " in turn " + turn, x.move(step, 3), to);
        due("the stone", x.count(2), to);
    }

    private static void terms() {
        sentence(TERMS, "It is the TURN of ENVOY (THE TURN modulo m).", () -> {
            for (int m = 1; m <= 5; m++) {
                Used x = plain(m);
                int e = 0;
                for (int k = 0; k < 60; k++) {
                    due("whose turn " + k + " of " + m, x.next(), e);
                    x.move(1, k % 4);
                    due("who moved", x.moved(k, 0), e);
                    due("whose last reason", x.told(e, 3), k % 4);
                    e = e == m - 1 ? 0 : e + 1;
                }
                due("behind the last move", x.next(), e);
            }
        });
        sentence(TERMS, "To GO a step s (-4 .. 4): THE STONE comes s PLACES to the right, in each TURN whose number modulo 3 is 2"
            + " to the left (below 0 the other way).", () -> {
                for (int turn = 0; turn < 7; turn++) {
                    for (int step = -4; step <= 4; step++) {
                        int right = turn == 2 || turn == 5 ? -step : step;
                        goes(19, 9, turn, step, 9 + right);
                        goes(19, 18, turn, step, right > 0 ? right - 1 : 18 + right);
                        goes(19, 0, turn, step, right < 0 ? 19 + right : right);
                    }
                }
                goes(3, 2, 0, 4, 0);
                goes(3, 0, 0, 4, 1);
                goes(3, 0, 0, -4, 2);
                goes(3, 2, 2, 4, 1);
                goes(3, 0, 2, -4, 1);
                goes(3, 1, 59, 2, 2);
                goes(4, 1, 0, 4, 1);
                goes(19, 17, 57, 4, 2);
                goes(19, 1, 59, 4, 16);
            });
        sentence(TERMS, "MAY GO a step: no further than one GOES at most; 0, if one may STAY", () -> {
            int[][] far = {{0, 0, 2}, {1, 0, 3}, {1, 8, 3}, {1, 9, 4}, {2, 9, 2}, {3, 8, 3}, {3, 9, 4}, {4, 9, 1}, {5, 9, 1}};
            for (int[] f : far) {
                for (int step = -4; step <= 4; step++) {
                    boolean may = step >= -f[2] && step <= f[2] && (step != 0 || f[0] != 3);
                    Used x = with(f[0], f[1]);
                    due("the bit of " + step + " of kind " + f[0], x.steps() >> step + 4 & 1, may ? 1 : 0);
                    x.move(step, 0);
                    due("whether " + step + " of kind " + f[0] + " breaks", x.moved(0, 4), may ? 0 : 1);
                }
            }
        });
        sentence(TERMS, "; and, if one has a LAST REASON by which one is BOUND, allows must be yes (reason: it; step; stone: where"
            + " THE STONE is).", () -> {
                Used x = plain(2);
                law(x, "allows 0;worth 0;price 0;");
                due("no last reason", x.steps(), stepBits(-2, -1, 0, 1, 2));
                due("so it may", x.move(2, 0), 2);
                due("another one's last reason", x.steps(), stepBits(-2, -1, 0, 1, 2));
                x.move(1, 1);
                due("bound", x.steps(), 0);
                x.force(0);
                due("reason 0 allows all but 0", x.steps(), stepBits(-2, -1, 1, 2));
                law(x, "allows reason=0 and step=1;worth 0;price 0;");
                due("by the reason and the step", x.steps(), stepBits(1));
                law(x, "allows step+2 = stone;worth 0;price 0;");
                // the stone is on 3
                due("by where the stone is", x.steps(), stepBits(1));
                x.set(1, 0);
                due("by where the stone is now", x.steps(), stepBits(-2));
                x.set(1, 5);
                due("by where the stone is now", x.steps(), 0);
                law(x, "allows turn = 2 and far = 5;worth 0;price 0;");
                x.set(1, 4);
                due("far 5 from 9, in turn 2", x.steps(), stepBits(-2, -1, 0, 1, 2));
                x.set(1, 3);
                due("far 6", x.steps(), 0);
                law(x, "allows -1;worth 0;price 0;");
                due("what is not 0 is yes, which frees no further step", x.steps(), stepBits(-2, -1, 0, 1, 2));
            });
        sentence(TERMS, "TO MOVE: one GOES a step, gives a REASON: it is the LAST REASON then; THE TURN is 1 more.", () -> {
            Used x = plain(2);
            for (int k = 0; k < 8; k++) {
                due("the turn", x.count(3), k);
                x.move(1, k / 2);
                due("the last reason of who moved", x.told(k % 2, 3), k / 2);
                due("the other's", x.told(1 - k % 2, 3), k / 2 - 1 + k % 2);
            }
            Used y = with(4, 5);
            y.move(0, 2);
            due("of one who is not bound, too", y.told(0, 3), 2);
            y.move(4, 1);
            due("by a step that may not be gone, too", y.told(0, 3), 1);
            due("the stone goes all the same", y.count(2), 4);
            due("the turn, too", y.count(3), 2);
        });
        sentence(TERMS, "A MOVE that is truly made is kept (60 at most), also if it MAY not be: then it BREAKS.", () -> {
            Used x = with(5, 0);
            for (int k = 0; k < 60; k++) {
                due("no move yet", x.moved(k, 1), -105);
                x.move(k % 9 - 4, 3);
                due("moves", x.count(4), k + 1);
                due("kept", x.moved(k, 1), k % 9 - 4);
                due("breaks", x.moved(k, 4), Math.abs(k % 9 - 4) > 1 ? 1 : 0);
            }
            due("a 61st", x.move(0, 3), FULL);
            due("moves", x.count(4), 60);
            due("none behind", x.moved(60, 0), -105);
            // in thought they are not kept: as many as are told, behind as many as are kept
            row(x, 0, 0, new int[40]);
            due("20 more in thought", x.judge(0), 1);
            due("40 more in thought", x.drawn(0, 40, 1), 0);
            due("moves", x.count(4), 60);
        });
    }

    private static void next() {
        sentence(12, "Whose TURN it is; -1: no ENVOYS.", () -> {
            due("no envoys", new Used().next(), -1);
            Used x = plain(1);
            due("alone", x.next(), 0);
            x.move(0, 0);
            due("alone, again", x.next(), 0);
            x = plain(5);
            for (int k = 0; k < 11; k++) {
                due("of five, behind " + k, x.next(), k % 5);
                x.move(0, 0);
            }
            Used y = new Used();
            y.image();
            y.envoy(0, 0);
            y.back();
            due("none again", y.next(), -1);
        });
    }

    private static void steps() {
        sentence(13, "Steps (bits 0 .. 8: 4 more than each) that MAY be gone by whose TURN it is", () -> {
            Used x = with(1, 9, 5, 0);
            due("of four either way", x.steps(), 511);
            x.move(0, 0);
            due("of the other one", x.steps(), stepBits(-1, 0, 1));
            x.move(0, 0);
            due("bound by reason 0", x.steps(), 511 - 16);
            for (int step = -4; step <= 4; step++) {
                Used y = with(1, 9);
                law(y, step < 0 ? "allows step=-" + -step + ";worth 0;price 0;" : "allows step=" + step + ";worth 0;price 0;");
                y.move(0, 0);
                due("step " + step + " alone", y.steps(), 1 << step + 4);
            }
            Used z = with(1, 9);
            law(z, "allows 0;worth 0;price 0;");
            z.move(0, 0);
            due("none", z.steps(), 0);
        });
        sentence(13, "(0: no ENVOYS).", () -> {
            due("no envoys", new Used().steps(), 0);
            due("one", plain(1).steps(), 124);
            Used y = new Used();
            y.image();
            y.envoy(0, 0);
            y.back();
            due("none again", y.steps(), 0);
        });
    }

    private static void move() {
        sentence(14, "A MOVE, truly, by whose TURN it is: where THE STONE is then.", () -> {
            Used x = plain(3);
            due("the first", x.move(-1, 0), 18);
            due("the second", x.move(4, 1), 3);
            due("the third, to the left", x.move(4, 2), 18);
            due("it stays", x.move(0, 3), 18);
            due("the stone", x.count(2), 18);
            due("the turn", x.count(3), 4);
            due("the moves", x.count(4), 4);
            due("who was last", x.moved(3, 0), 0);
            due("reasons", 100 * x.told(0, 3) + 10 * x.told(1, 3) + x.told(2, 3), 312);
        });
        sentence(14, "-7: step, REASON", () -> {
            for (int step = -4; step <= 4; step++) {
                for (int reason = 0; reason < 4; reason++) {
                    due("move(" + step + ", " + reason + ")", plain(1).move(step, reason), step < 0 ? 19 + step : step);
                }
            }
            for (int step : new int[] {-5, 5, -6, 6, 256, MIN, MAX}) {
                refused("move(" + step + ", 0)", States::rich, x -> x.move(step, 0), -7);
                due("ahead of STATE", new Used().move(step, 0), -7);
                due("ahead of FULL", States.full().move(step, 3), -7);
            }
            for (int reason : new int[] {-1, 4, 5, MIN, MAX}) {
                refused("move(0, " + reason + ")", States::rich, x -> x.move(0, reason), -7);
                due("ahead of STATE", new Used().move(0, reason), -7);
                due("ahead of FULL", States.full().move(0, reason), -7);
            }
        });
        sentence(14, "STATE: no ENVOYS", () -> {
            refused("move(0, 0)", States::bare, x -> x.move(0, 0), STATE);
            refused("move(4, 3)", States::bare, x -> x.move(4, 3), STATE);
            refused("move(-4, 0)", States::bare, x -> x.move(-4, 0), STATE);
            due("of one", plain(1).move(4, 3), 4);
        });
        sentence(14, "FULL.", () -> {
            Used x = plain(2);
            x.move(0, 3);
            x.image();
            moves(x, 59);
            due("the sixtieth", x.move(1, 3), 18);
            due("a 61st", x.move(1, 2), FULL);
            due("a 61st that may not be", x.move(4, 2), FULL);
            due("the last reason", x.told(0, 3), 3);
            x.back();
            due("room again", x.move(1, 2), 1);
            refused("a 61st", States::full, y -> y.move(1, 2), FULL);
        });
    }

    private static void moved() {
        sentence(15, "Of a MOVE what 0 who, 1 step, 2 REASON, 3 where THE STONE was ahead of it, 4 whether it BREAKS (1, 0).", () -> {
            Used x = with(1, 9, 4, 5, 3, 0);
            int[][] made = {{-4, 3}, {2, 0}, {4, 1}, {0, 2}, {1, 1}, {0, 0}};
            int[][] want = {{0, -4, 3, 0, 0}, {1, 2, 0, 15, 1}, {2, 4, 1, 17, 1}, {0, 0, 2, 13, 0}, {1, 1, 1, 13, 0},
                {2, 0, 0, 14, 1}};
            for (int[] m : made) {
                x.move(m[0], m[1]);
            }
            for (int k = 0; k < 6; k++) {
                for (int what = 0; what < 5; what++) {
                    due("moved(" + k + ", " + what + ")", x.moved(k, what), want[k][what]);
                }
            }
            // what is kept stays, whatever comes
            x.set(1, 5);
            law(x, "allows 0;worth 0;price 0;");
            x.hope(0, 2);
            x.move(1, 1);
            for (int what = 0; what < 5; what++) {
                due("moved(0, " + what + ")", x.moved(0, what), want[0][what]);
                due("moved(5, " + what + ")", x.moved(5, what), want[5][what]);
            }
            due("by the law that is: bound by 2", x.moved(6, 4), 1);
            due("where the stone was set", x.moved(6, 3), 5);
        });
        sentence(15, "-105: no such MOVE", () -> {
            Used x = plain(1);
            for (int k : new int[] {-1, 0, 1, 59, 60, MIN, MAX}) {
                due("moved(" + k + ", 0) of none", x.moved(k, 0), -105);
                due("moved(" + k + ", 5) of none", x.moved(k, 5), -105);
            }
            for (int m = 1; m <= 60; m++) {
                x.move(0, 3);
                due("the last one", x.moved(m - 1, 2), 3);
                due("behind the last one", x.moved(m, 2), -105);
            }
            for (int k : new int[] {-1, 60, 61, MIN, MAX}) {
                due("moved(" + k + ", 0) of 60", x.moved(k, 0), -105);
                due("moved(" + k + ", 9) of 60, ahead of what", x.moved(k, 9), -105);
            }
            Used y = plain(1);
            y.move(0, 3);
            y.image();
            y.move(0, 3);
            y.back();
            due("one that is no more", y.moved(1, 0), -105);
            due("one that is", y.moved(0, 2), 3);
        });
        sentence(15, "-107: what.", () -> {
            Used x = plain(1);
            x.move(-2, 3);
            for (int what : new int[] {-1, 5, -2, 6, 256, MIN, MAX}) {
                due("moved(0, " + what + ")", x.moved(0, what), -107);
            }
            due("the first what", x.moved(0, 0), 0);
            due("the last what", x.moved(0, 4), 0);
        });
    }

    private static void broken() {
        sentence(16, "The first MOVE of an ENVOY (-1: of any) that BREAKS, from number from (0 .. 60) on; -1: none.", () -> {
            Used x = with(5, 0, 5, 0, 5, 0);
            boolean[] breaks = new boolean[60];
            for (int k = 0; k < 60; k++) {
                breaks[k] = k == 0 || k == 7 || k == 20 || k == 21 || k == 40 || k == 59;
                x.move(breaks[k] ? 2 : 1, 3);
            }
            for (int e = -1; e < 3; e++) {
                for (int from = 0; from <= 60; from++) {
                    int first = from;
                    while (first < 60 && !(breaks[first] && (e == -1 || first % 3 == e))) {
                        first++;
                    }
                    due("broken(" + e + ", " + from + ")", x.broken(e, from), first < 60 ? first : -1);
                }
            }
            due("none", plain(1).broken(-1, 0), -1);
            due("none", plain(1).broken(0, 60), -1);
            due("no envoys", new Used().broken(-1, 0), -1);
            due("no envoys", new Used().broken(-1, 60), -1);
            Used y = with(5, 0);
            y.move(1, 3);
            y.image();
            y.move(2, 3);
            due("the second", y.broken(-1, 0), 1);
            y.back();
            due("one that is no more", y.broken(-1, 0), -1);
            due("one that is no more", y.broken(0, 1), -1);
        });
        sentence(16, "-5: no such ENVOY", () -> {
            for (int m = 0; m <= 5; m++) {
                Used x = plain(m);
                for (int e : new int[] {-2, m, m + 1, MIN, MAX}) {
                    due("broken(" + e + ", 0) of " + m, x.broken(e, 0), -5);
                    due("broken(" + e + ", 61) of " + m + ", ahead of from", x.broken(e, 61), -5);
                }
                due("the last one of " + m, x.broken(m - 1, 0), -1);
            }
        });
        sentence(16, "-7: from.", () -> {
            Used x = plain(2);
            x.move(4, 3);
            for (int from : new int[] {-1, 61, -2, 62, MIN, MAX}) {
                due("broken(-1, " + from + ")", x.broken(-1, from), -7);
                due("broken(1, " + from + ")", x.broken(1, from), -7);
            }
            due("from 0", x.broken(-1, 0), 0);
            due("from 60", x.broken(-1, 60), -1);
        });
    }
}
