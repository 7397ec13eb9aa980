/** Wishes, calls: promises 17 to 19, and the terms on which they rest. */
final class EdgeCall extends Edge {
    static void run() {
        terms();
        may();
        call();
        worth();
    }

    /** Whether a move of one who is alone, from a place to another, was against oneself, of HOME 0. */
    private static void against(int n, int from, int step, boolean is) {
        Used x = plain(1);
        x.set(0, n);
        x.set(1, from);
        x.move(step, 3);
        due("on " + n + " from " + from + " a step " + step + ": whom one can wish", x.may(0), is ? 0 : 1);
    }

    private static void terms() {
        sentence(TERMS, "A MOVE is AGAINST a WISH, if THE STONE is further APART from HOME of that one behind it than ahead of it"
            + " (on PLACES as they were).", () -> {
                against(19, 0, 0, false);
                against(19, 0, 1, true);
                against(19, 0, -1, true);
                against(19, 5, 0, false);
                against(19, 5, -1, false);
                against(19, 18, -1, true);
                against(19, 18, 1, false);
                // as far apart on the other side
                against(19, 18, 2, false);
                against(19, 1, -2, false);
                against(19, 1, -3, true);
                against(19, 2, -4, false);
                against(19, 18, 3, true);
                // over the far end: 9 and 10 are like far of 19; of 12 the far end is 6
                against(19, 9, 1, false);
                against(19, 10, -1, false);
                against(19, 8, 1, true);
                against(19, 8, 2, true);
                against(19, 8, 3, false);
                against(19, 9, 2, false);
                against(12, 5, 1, true);
                against(12, 6, 1, false);
                against(12, 5, 2, false);
                against(12, 4, 4, false);
                against(12, 4, 3, true);
                against(12, 8, -1, true);
                against(12, 8, 1, false);
                against(12, 11, -2, true);
                against(3, 0, 4, true);
                against(3, 1, 1, false);
                against(3, 1, 4, false);
                against(3, 2, 4, false);
                against(4, 0, 4, false);
                // where the stone comes by set() is no move
                Used x = plain(2);
                x.move(1, 3);
                due("towards 9", x.may(0), 2);
                x.set(1, 0);
                due("as it was", x.may(0), 2);
                x.set(1, 18);
                x.move(0, 3);
                due("one stays", x.may(1), 1);
                // the third turn to the left: 18 to 19, which is 0
                x.move(-1, 3);
                due("from 18 to 0: 9 apart, as ahead", x.may(0), 2);
                x.set(1, 12);
                x.move(-1, 3);
                due("from 12 to 11: further from 0, not from 9", x.may(1), 0);
            });
        sentence(TERMS, "An ENVOY CAN WISH others (alone: oneself) against whom none of one's own MOVES was", () -> {
            due("alone, no move", plain(1).may(0), 1);
            int[][] others = {{2, 1}, {6, 5, 3}, {14, 13, 11, 7}, {30, 29, 27, 23, 15}};
            for (int m = 2; m <= 5; m++) {
                Used x = plain(m);
                for (int e = 0; e < m; e++) {
                    due("others of " + e + " of " + m, x.may(e), others[m - 2][e]);
                }
            }
            // HOMES 0, 6, 12
            Used x = plain(3);
            x.move(1, 3);
            due("from 0 to 1 is against 0 and 2: of 0", x.may(0), 2);
            due("another one's move", x.may(1), 5);
            x.set(1, 2);
            x.move(1, 3);
            due("from 2 to 3 is against 0 (not 2, 9 and 9 apart)", x.may(1), 4);
            x.move(-1, 3);
            due("from 3 to 4 is against 0 (not 1)", x.may(2), 2);
            x.move(-4, 3);
            due("from 4 to 0 is against 1, too", x.may(0), 0);
            x.move(0, 3);
            due("one stays", x.may(1), 4);
            x.set(1, 7);
            x.move(2, 3);
            due("from 7 to 5, to the left: against 2, not against 1", x.may(2), 2);
            x.move(0, 3);
            due("what was against stays so", x.may(0), 0);
        });
        sentence(TERMS, "; whose CARD is SHOWN: just one's WISH.", () -> {
            Used x = plain(3);
            x.move(-1, 3);
            due("against 1", x.may(0), 4);
            due("a lie: 0 wishes 1", x.call(2, 0), 0);
            due("shown, though against", x.may(0), 2);
            x.hope(0, 2);
            due("shown, by another wish", x.may(0), 4);
            due("not shown", x.may(1), 5);
            due("no lie now", x.call(1, 0), 1);
            due("shown", x.may(1), 4);
            x.hope(1, 0);
            due("shown, by another wish", x.may(1), 1);
            x.move(4, 3);
            due("shown, whatever one moves", x.may(1), 1);
        });
    }

    /** Of two: all stay on a place, but for the sixtieth move, by 1, which is one to the right. */
    private static Used sixty(int from) {
        Used x = plain(2);
        x.set(1, from);
        moves(x, 59);
        due("the sixtieth", x.move(-1, 3), from + 1);
        return x;
    }

    private static void may() {
        sentence(17, "Whom one CAN WISH (bits).", () -> {
            due("the sixtieth move, from 12 to 13, is towards 0", sixty(12).may(1), 1);
            due("the sixtieth move, from 5 to 6, is against 0", sixty(5).may(1), 0);
            Used x = plain(5);
            due("the last one: bits 0 .. 3", x.may(4), 15);
            due("the first one: bits 1 .. 4", x.may(0), 30);
            // HOMES 0, 3, 7, 11, 15
            x.move(2, 3);
            due("from 0 to 2: against 0, 3, 4", x.may(0), bits(1, 2));
            x.set(1, 14);
            x.move(2, 3);
            // from 14 to 16: 1 to 1 of 15; 5 to 3 of 0; 8 to 6 of 3; 7 to 9 of 7; 3 to 5 of 11
            due("from 14 to 16", x.may(1), bits(0, 4));
        });
        sentence(17, "-5: no such ENVOY.", () -> {
            for (int m = 0; m <= 5; m++) {
                Used x = plain(m);
                for (int e : new int[] {-1, m, m + 1, MIN, MAX}) {
                    due("may(" + e + ") of " + m, x.may(e), -5);
                }
                due("the last one", m == 0 ? 1 : Math.min(1, x.may(m - 1)), 1);
            }
        });
    }

    private static void call() {
        sentence(18, "An ENVOY calls another one's last MOVE a lie, truly: if it was AGAINST that one's WISH, that one's CARD is"
            + " SHOWN, else one's own: whose.", () -> {
                // HOMES 0, 6, 12; wishes 1, 2, 0
                Used x = plain(3);
                x.move(-1, 3);
                due("from 0 to 18 is against 1", x.call(1, 0), 0);
                cards(x, 1, 0, 0);
                due("the same again", x.call(2, 0), 0);
                cards(x, 1, 0, 0);
                x.move(0, 3);
                due("to stay is against nobody", x.call(2, 1), 2);
                cards(x, 1, 0, 1);
                // the third turn to the left: from 18 to 0 is towards 0
                x.move(-1, 3);
                due("no lie", x.call(0, 2), 0);
                cards(x, 1, 0, 1);
                x.move(1, 3);
                due("0's last move is no lie", x.call(1, 0), 1);
                cards(x, 1, 1, 1);
                Used y = plain(2);
                y.move(-1, 3);
                y.move(-1, 3);
                y.move(-1, 3);
                // 0: from 0 to 18 (9 and 9 apart of 9), then from 17 to 18, further from 9
                due("the last move alone", y.call(1, 0), 0);
                cards(y, 1, 0);
                due("1: from 18 to 17, further from 0", y.call(0, 1), 1);
                cards(y, 1, 1);
                Used z = plain(2);
                z.move(-1, 3);
                due("9 and 9 apart is no lie", z.call(1, 0), 1);
                cards(z, 0, 1);
                due("the stone, the turn, the moves", z.count(2) * 100 + z.count(3) * 10 + z.count(4), 1811);
            });
        sentence(18, "An ENVOY calls another one's last MOVE a lie, truly", () -> {
            Used y = sixty(12);
            due("of 1, the sixtieth: from 12 to 13", y.call(0, 1), 0);
            due("worth: by the sixtieth", y.worth(0, 1, 0), -3);
            Used x = sixty(5);
            due("of 1, the sixtieth: from 5 to 6", x.call(0, 1), 1);
            due("of 0, one stays", x.call(1, 0), 1);
            due("worth: by the sixtieth", x.worth(0, 1, 0), 3);
            due("worth: not by the sixtieth", x.worth(1, 0, 0), -3);
        });
        sentence(18, "-5: no such ENVOYS, one and the same", () -> {
            refused("call(0, 1) of none", States::bare, x -> x.call(0, 1), -5);
            refused("call(0, 0) of one", States::alone, x -> x.call(0, 0), -5);
            refused("call(0, 1) of one", States::alone, x -> x.call(0, 1), -5);
            for (int e : new int[] {-1, 3, 4, MIN, MAX}) {
                refused("call(" + e + ", 0)", States::rich, x -> x.call(e, 0), -5);
                refused("call(0, " + e + ")", States::rich, x -> x.call(0, e), -5);
                refused("call(" + e + ", " + e + ")", States::rich, x -> x.call(e, e), -5);
            }
            for (int e = 0; e < 3; e++) {
                int same = e;
                refused("call(" + e + ", " + e + ")", States::rich, x -> x.call(same, same), -5);
            }
            refused("call(5, 0)", States::full, x -> x.call(5, 0), -5);
            refused("call(0, 5)", States::full, x -> x.call(0, 5), -5);
            // ahead of STATE
            due("call(1, 1) of two without a move", plain(2).call(1, 1), -5);
            due("call(0, 2) of two without a move", plain(2).call(0, 2), -5);
        });
        sentence(18, "STATE: that one has made no MOVE.", () -> {
            refused("call(0, 1), no moves", () -> plain(2), x -> x.call(0, 1), STATE);
            refused("call(0, 1), 0 moved", () -> firstMoved(), x -> x.call(0, 1), STATE);
            refused("call(1, 2), 0 moved", () -> firstMoved(), x -> x.call(1, 2), STATE);
            due("call(1, 0), 0 moved", firstMoved().call(1, 0), 1);
            due("call(2, 0), 0 moved", firstMoved().call(2, 0), 2);
            Used x = plain(2);
            x.image();
            x.move(1, 3);
            x.back();
            due("the move is no more", x.call(1, 0), STATE);
        });
    }

    private static Used firstMoved() {
        Used x = plain(3);
        x.move(1, 3);
        return x;
    }

    private static void cards(Used x, int... shown) {
        for (int e = 0; e < shown.length; e++) {
            due("the card of " + e, x.told(e, 5), shown[e]);
        }
    }

    private static void is(String how, Used x, int e, int other, long above, long below) {
        due(how + ", above", x.worth(e, other, 0), above);
        due(how + ", below", x.worth(e, other, 1), below);
    }

    /** Of so many envoys 0 moved, from a place by a step; the price is as told. */
    private static Used priced(int envoys, int from, int step, String price) {
        Used x = plain(envoys);
        law(x, "allows 1;worth 0;price " + price + ";");
        x.set(1, from);
        x.move(step, 2);
        return x;
    }

    private static void worth() {
        sentence(19, "Of all WISHES that other ENVOY could have (any but itself) those AGAINST which its last MOVE was, less all"
            + " others", () -> {
                // of two: 1 of HOME 9
                is("against the one", priced(2, 9, 1, "1"), 1, 0, 1, 1);
                is("not against the one", priced(2, 0, 1, "1"), 1, 0, -1, 1);
                is("as far apart", priced(2, 0, -1, "1"), 1, 0, -1, 1);
                is("one stays", priced(2, 5, 0, "1"), 1, 0, -1, 1);
                // of three: HOMES 0, 6, 12
                is("against both", priced(3, 9, 0, "1"), 1, 0, -1, 1);
                is("from 6 to 5: both", priced(3, 6, -1, "1"), 1, 0, 1, 1);
                is("from 6 to 7: 1 alone", priced(3, 6, 1, "1"), 2, 0, 0, 1);
                // of five: HOMES 0, 3, 7, 11, 15: from 0 to 4 against 15 alone
                is("from 0 to 4: one of four", priced(5, 0, 4, "1"), 4, 0, -1, 2);
                is("from 3 to 1: three of four", priced(5, 3, -2, "1"), 4, 0, 1, 2);
                // of another one than 0: HOMES 0, 6, 12, the wish 0 counts
                Used z = plain(3);
                law(z, "allows 1;worth 0;price 1;");
                z.move(0, 3);
                z.set(1, 12);
                z.move(1, 3);
                is("1 from 12 to 13: against 2, not 0", z, 0, 1, 0, 1);
                z.set(1, 2);
                z.move(-2, 3);
                is("2 from 2 to 4, to the left: against 0, not 1", z, 1, 2, 0, 1);
                z.move(0, 3);
                z.set(1, 1);
                z.move(1, 3);
                is("1 from 1 to 2: against 0 and 2", z, 2, 1, 1, 1);
                // one's own wish and the card matter not, nor whose earlier moves
                Used x = priced(2, 9, 1, "1");
                x.call(1, 0);
                is("shown", x, 1, 0, 1, 1);
                x.move(0, 3);
                x.move(0, 3);
                is("the last move alone", x, 1, 0, -1, 1);
            });
        sentence(19, ", times price (of the one who calls; reason, step of that MOVE; stone: where THE STONE is)", () -> {
            Used x = with(0, 1, 0, 2, 0, 3);
            law(x, "allows 1;worth 0;price reason*10+step;");
            x.set(1, 6);
            x.move(-2, 3);
            // from 6 to 4 is against both
            is("reason 3, step -2", x, 1, 0, 28, 1);
            law(x, "allows 1;worth 0;price more*10+turn;");
            is("of 1: more 2, turn 1", x, 1, 0, 21, 1);
            is("of 2: more 3, turn 1", x, 2, 0, 31, 1);
            law(x, "allows 1;worth 0;price stone*10+far;");
            // 1 wishes 2, of HOME 12; 2 wishes 0
            is("of 1: stone 4, far 8", x, 1, 0, 48, 1);
            is("of 2: stone 4, far 4", x, 2, 0, 44, 1);
            x.set(1, 0);
            is("of 1, where the stone is now", x, 1, 0, 7, 1);
            law(x, "allows 1;worth 0;price 0;");
            is("price 0", x, 1, 0, 0, 1);
            law(x, "allows 1;worth 0;price 100;");
            is("the bound", x, 1, 0, 99, 1);
        });
        sentence(19, ", by how many they are: part 0 above (below 0, too), 1 below the line, in lowest terms.", () -> {
            is("99 by 1", priced(2, 9, 1, "99"), 1, 0, 99, 1);
            is("-99 by 1", priced(2, 9, 1, "-99"), 1, 0, -99, 1);
            is("-1 times -99", priced(2, 9, 0, "-99"), 1, 0, 99, 1);
            is("0 by 2", priced(3, 6, 1, "99"), 1, 0, 0, 1);
            is("2 by 2", priced(3, 6, -1, "1"), 1, 0, 1, 1);
            // of four: HOMES 0, 4, 9, 14: from 9 to 10: against 9, 4; so 2 less 1
            is("1 by 3", priced(4, 9, 1, "1"), 1, 0, 1, 3);
            is("3 by 3", priced(4, 9, 1, "3"), 1, 0, 1, 1);
            is("2 by 3", priced(4, 9, 1, "2"), 1, 0, 2, 3);
            is("-2 by 3", priced(4, 9, 1, "-2"), 1, 0, -2, 3);
            is("98 by 3", priced(4, 9, 1, "98"), 1, 0, 98, 3);
            is("99 by 3", priced(4, 9, 1, "99"), 1, 0, 33, 1);
            is("0 by 3", priced(4, 9, 1, "0"), 1, 0, 0, 1);
            is("-3 by 3", priced(4, 9, 0, "1"), 1, 0, -1, 1);
            // of five by 4: from 0 to 4 is -2, from 3 to 1 is 2, to stay is -4
            is("-2 by 4", priced(5, 0, 4, "1"), 1, 0, -1, 2);
            is("6 by 4", priced(5, 3, -2, "3"), 1, 0, 3, 2);
            is("4 by 4", priced(5, 3, -2, "2"), 1, 0, 1, 1);
            is("-6 by 4", priced(5, 3, -2, "-3"), 1, 0, -3, 2);
            is("-4 times 99 by 4", priced(5, 3, 0, "99"), 1, 0, -99, 1);
        });
        sentence(19, "NO: none such, one and the same; that one has made no MOVE.", () -> {
            due("of none", new Used().worth(0, 1, 0), NO);
            due("of one", plain(1).worth(0, 0, 0), NO);
            due("of one", plain(1).worth(0, 1, 0), NO);
            Used x = plain(3);
            due("no moves", x.worth(1, 0, 0), NO);
            x.move(1, 3);
            due("0 moved", x.worth(1, 0, 0), 0);
            due("0 moved", x.worth(1, 0, 1), 1);
            for (int e = 0; e < 3; e++) {
                due("1 has not moved", x.worth(e, 1, 0), NO);
                due("2 has not moved", x.worth(e, 2, 1), NO);
                due("one and the same", x.worth(e, e, 0), NO);
            }
            for (int v : new int[] {-1, 3, 4, 5, MIN, MAX}) {
                due("worth(" + v + ", 0, 0)", x.worth(v, 0, 0), NO);
                due("worth(0, " + v + ", 0)", x.worth(0, v, 0), NO);
            }
            for (int part : new int[] {-1, 2, 3, 256, MIN, MAX}) {
                due("part " + part, x.worth(1, 0, part), NO);
            }
            Used y = plain(2);
            y.image();
            y.move(1, 3);
            due("a move", y.worth(1, 0, 0), -3);
            y.back();
            due("the move is no more", y.worth(1, 0, 0), NO);
        });
    }
}
