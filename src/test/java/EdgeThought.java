/** From the last turn back: promises 20 to 24, and the terms on which they rest. */
final class EdgeThought extends Edge {
    static void run() {
        bestTerms();
        forcingTerms();
        best();
        canForce();
        reach();
        loosest();
        deals();
    }

    private static void is(String how, Used x, int turns, int end, int step, int reason) {
        due(how + ": where it ends", x.best(turns, 0), end);
        due(how + ": the step", x.best(turns, 1), step);
        due(how + ": the reason", x.best(turns, 2), reason);
    }

    private static Used by(String allows, String worth, int... kindsAndMores) {
        Used x = with(kindsAndMores);
        law(x, "allows " + allows + ";worth " + worth + ";price 0;");
        return x;
    }

    private static void bestTerms() {
        sentence(TERMS, "FROM THE LAST TURN BACK, n TURNS yet, in thought: none: THE STONE is where it is.", () -> {
            // in the last turn none is left behind it: worth is of where the stone is then
            is("one turn: it ends where one goes", by("1", "stone=2", 0, 0), 1, 2, 2, 0);
            is("one may stay there", by("1", "stone=0", 0, 0), 1, 0, 0, 0);
            asking("thought", States::rich, x -> x.best(3, 0) + x.best(2, 1) + x.best(1, 2));
            asking("thought", States::full, x -> x.best(3, 0) + x.best(2, 1) + x.best(1, 2));
        });
        sentence(TERMS, "Else whose TURN it is tries each step that MAY be gone, from -4 on, with each REASON, from 0 on", () -> {
            // all are worth as much: the first step, the first reason
            is("0: from -2 on", by("1", "0", 0, 0), 1, 17, -2, 0);
            is("a bold one: from -3 on", by("1", "0", 1, 8), 1, 16, -3, 0);
            is("a bold one of 9: from -4 on", by("1", "0", 1, 9), 1, 15, -4, 0);
            is("a shy one: from -1 on", by("1", "0", 5, 0), 1, 18, -1, 0);
            for (int step = -4; step <= 4; step++) {
                int to = (step + 19) % 19;
                is("step " + step, by("1", "stone=" + to, 1, 9), 1, to, step, 0);
            }
            // what may not be gone is not tried: a rash one can't stay
            is("a rash one", by("1", "stone=0", 3, 0), 1, 16, -3, 0);
            is("further than one goes", by("1", "stone=3", 0, 0), 1, 17, -2, 0);
            // of reasons, the first that lets one go on: 2 to the right twice
            for (int reason = 0; reason < 4; reason++) {
                is("reason " + reason, by("reason=" + reason, "stone=4", 0, 0), 2, 4, 2, reason);
                is("from reason " + reason + " on", by("reason=" + reason + " or reason=3", "stone=4", 0, 0), 2, 4, 2, reason);
            }
            is("each reason of a step ahead of the next step", by("reason=1 or stone=2", "stone=3", 0, 0), 2, 3, 1, 1);
            is("no reason behind 3", by("reason=4", "stone=4", 0, 0), 2, 17, -2, 0);
            is("no reason ahead of 0", by("reason<0", "stone=4", 0, 0), 2, 17, -2, 0);
            Used x = by("step=1", "stone=17", 0, 0);
            x.move(0, 1);
            is("allowed is 1 alone", x, 1, 1, 1, 0);
        });
        sentence(TERMS, "(if there are no more TURNS yet than ENVOYS, REASON 0 alone)", () -> {
            for (int m = 1; m <= 4; m++) {
                int[] envoys = new int[2 * m];
                for (int turns = 1; turns <= 3 && turns <= m; turns++) {
                    Used x = by("reason=1", "stone", envoys);
                    due("reason, " + turns + " turns of " + m, x.best(turns, 2), 0);
                }
            }
            // one more turn than envoys: of one 2 turns, of two 3; by reason 0 one would stay on
            is("2 turns of 1", by("reason=3 and step=1", "stone=3", 0, 0), 2, 3, 2, 3);
            is("1 turn of 1", by("reason=3 and step=1", "stone=2", 0, 0), 1, 2, 2, 0);
            is("3 turns of 2", by("reason=3 and step=-1", "stone=5", 0, 0, 0, 0), 3, 5, 2, 3);
            is("2 turns of 2", by("reason=3 and step=-1", "stone=4", 0, 0, 0, 0), 2, 4, 2, 0);
        });
        sentence(TERMS, ", and moves so; by what comes of it in n less 1 TURNS, one takes the first of those that are worth most"
            + " to one", () -> {
                // the second takes what is best to it: back to 0, whatever the first does
                Used x = with(0, 0, 0, 0);
                is("of the first text", x, 1, 2, 2, 0);
                is("of the first text", x, 2, 0, -2, 0);
                // worth most, not least; of like ones the first; -1 is less than 0
                is("the most", by("1", "-far", 0, 0), 1, 0, 0, 0);
                is("the first of two", by("1", "far", 0, 0), 1, 17, -2, 0);
                is("2 is more than 1", by("1", "(stone=1)+(stone=2)*2", 0, 0), 1, 2, 2, 0);
                is("99 and 100 are like", by("1", "(stone=18)*99+(stone=2)*100", 0, 0), 1, 18, -1, 0);
                is("-99 and -100 are like", by("1", "0-99-(stone=17)-(stone=18)-(stone=0)", 0, 0), 1, 17, -2, 0);
                // the third turn, of the first one, is to the left, worth to it what is worth to it
                is("three turns", by("1", "stone", 0, 0), 3, 18, -2, 0);
                is("turn 2 is to the left", by("1", "stone=6", 0, 0), 3, 6, 2, 0);
                // the one wants it far to the right of 0, the other takes back what it can
                Used y = by("1", "(more=1)*stone+(more=2)*-stone", 0, 1, 0, 2);
                y.set(1, 9);
                is("worth to each", y, 2, 9, 2, 0);
            });
        sentence(TERMS, ": worth (reason: one's LAST REASON ahead of it, 0 if none; step 0; stone: where THE STONE ends; turn: THE"
            + " TURN ahead of it).", () -> {
                is("none is 0", by("1", "(reason=0)*(stone=1)", 0, 0), 1, 1, 1, 0);
                for (int reason = 0; reason < 4; reason++) {
                    Used x = by("1", "(reason=" + reason + ")*(stone=1)", 0, 0);
                    x.move(0, reason);
                    is("reason " + reason, x, 1, 1, 1, 0);
                    is("reason " + reason + ", in the second turn it is the one that was given", by("1", "(reason=" + reason
                        + ")*(stone=4)", 0, 0), 2, reason == 0 ? 4 : 15, reason == 0 ? 2 : -2, 0);
                }
                is("step 0", by("1", "(step=0)*(stone=1)", 0, 0), 1, 1, 1, 0);
                is("turn 0", by("1", "(turn=0)*(stone=1)", 0, 0), 1, 1, 1, 0);
                is("not turn 1", by("1", "(turn=1)*(stone=1)", 0, 0), 1, 17, -2, 0);
                for (int reason = 0; reason < 4; reason++) {
                    is("in the second turn the reason of the first, " + reason, by("1", "(turn=0 or reason=" + reason
                        + ")*(stone=4)", 0, 0), 2, 4, 2, reason);
                }
                Used y = by("1", "(turn=2)*(stone=1)", 0, 0);
                y.move(0, 3);
                y.move(0, 3);
                is("turn 2", y, 1, 1, -1, 0);
                is("of one's own", by("1", "(more=4)*(stone=1)", 0, 4), 1, 1, 1, 0);
            });
        sentence(TERMS, "If no step MAY be gone: step 0, REASON 3.", () -> {
            Used x = by("reason=3", "stone*(stone<9)", 0, 0);
            x.move(1, 0);
            is("none", x, 1, 1, 0, 3);
            // by reason 3 one is free then: in turn 2, to the left, -2 leads from 1 to 3, then 2 to 5
            is("then free", x, 2, 3, 0, 3);
            is("then free, two times", x, 3, 5, 0, 3);
            x = by("0", "stone", 3, 0);
            x.move(1, 0);
            is("a rash one stays then, too", x, 3, 1, 0, 3);
            // the other one's turn comes all the same
            Used y = by("turn<2 or turn=3", "stone=3", 0, 0, 0, 0);
            y.move(0, 0);
            y.move(1, 0);
            is("the other goes 2", y, 2, 3, 0, 3);
        });
    }

    private static void forcingTerms() {
        sentence(TERMS, "FORCING, some ENVOYS, n TURNS yet: in each TURN whose it is goes any step that MAY be", () -> {
            due("one turn", plain(1).reach(1, 1), bits(17, 18, 0, 1, 2));
            due("two turns", plain(1).reach(1, 2), bits(15, 16, 17, 18, 0, 1, 2, 3, 4));
            due("a rash one", with(3, 9).reach(1, 1), bits(15, 16, 17, 18, 1, 2, 3, 4));
            due("a rash one, two turns", with(3, 0).reach(1, 2), bits(13, 14, 15, 16, 17, 18, 0, 1, 2, 3, 4, 5, 6));
            due("a shy one", with(5, 0).reach(1, 1), bits(18, 0, 1));
            Used x = plain(1);
            law(x, "allows step=1;worth 0;price 0;");
            due("free", x.reach(1, 1), bits(17, 18, 0, 1, 2));
            x.move(0, 0);
            due("bound", x.reach(1, 1), bits(1));
            // turn 1 to the right, turn 2 to the left
            due("bound, two turns", x.reach(1, 2), bits(0));
            due("bound, three turns", x.reach(1, 3), bits(1));
            due("bound, four turns", x.reach(1, 4), bits(2));
        });
        sentence(TERMS, "(none: nothing happens in it; LAST REASONS stay as they are, THE TURN goes on)", () -> {
            Used x = plain(2);
            law(x, "allows turn=3 and step=-2;worth 0;price 0;");
            x.move(1, 0);
            due("no last reason: free", x.reach(2, 1), bits(18, 0, 1, 2, 3));
            x.move(0, 1);
            // turn 2: 0 may go none; turn 3: 1 goes -2; turn 4: none
            for (int some = 0; some < 4; some++) {
                due("none in turn 2", x.reach(some, 1), bits(1));
                due("turn 3", x.reach(some, 2), bits(18));
                due("none in turn 4", x.reach(some, 3), bits(18));
            }
            // reasons stay: one who is free stays so, one who is bound by 0 may not stay
            Used y = plain(1);
            due("no reason is given: one may stay each time", y.canForce(1, 0, 4), 1);
            law(y, "allows 0;worth 0;price 0;");
            due("free all the time", y.reach(1, 4), bits(11, 12, 13, 14, 15, 16, 17, 18, 0, 1, 2, 3, 4, 5, 6, 7, 8));
            y.move(3, 1);
            due("bound all the time", y.reach(0, 4), bits(3));
            due("bound all the time", y.reach(1, 4), bits(3));
        });
        sentence(TERMS, "; that THE STONE is on a PLACE at last, whatever all others do.", () -> {
            // 1 goes 1 at most, 0 goes 2
            Used x = with(0, 0, 5, 0);
            due("none of them", x.reach(0, 1), 0);
            due("the other one", x.reach(2, 1), 0);
            due("0 and then 1, who is another one", x.reach(1, 2), 0);
            due("0, 1, 0: what is 1 from all", x.reach(1, 3), bits(16, 17, 18, 0, 1, 2, 3));
            due("1 has the last word", x.reach(2, 2), 0);
            due("both", x.reach(3, 2), bits(16, 17, 18, 0, 1, 2, 3));
            Used y = with(5, 0, 0, 0);
            due("1 takes back what 0 did", y.reach(2, 2), bits(18, 0, 1));
            // one who has no choice is forced along
            Used z = plain(2);
            law(z, "allows step=2;worth 0;price 0;");
            z.move(0, 0);
            z.move(0, 0);
            due("all go 2, the first to the left", z.reach(0, 1), bits(17));
            due("all go 2", z.reach(0, 2), bits(0));
            due("all go 2, three turns", z.reach(0, 3), bits(2));
            due("all go 2, the fourth to the left", z.reach(0, 4), bits(0));
        });
    }

    private static void best() {
        sentence(20, "FROM THE LAST TURN BACK, so many (1 .. 3) TURNS yet: where THE STONE ends (what 0), the step (1), the REASON"
            + " (2) that is taken now.", () -> {
                Used x = by("reason=2", "stone=4", 0, 0);
                is("1 turn", x, 1, 17, -2, 0);
                is("2 turns", x, 2, 4, 2, 2);
                // three turns: the third to the left
                is("3 turns", x, 3, 4, 0, 2);
                Used y = plain(5);
                is("of five", y, 1, 2, 2, 0);
                y.move(4, 0);
                due("now, of the one whose turn it is", y.best(1, 1), 2);
            });
        sentence(20, "-107: turns, what", () -> {
            for (int turns : new int[] {0, 4, -1, 5, 256, MIN, MAX}) {
                due("best(" + turns + ", 0)", plain(1).best(turns, 0), -107);
                due("best(" + turns + ", 0) of none", new Used().best(turns, 0), -107);
            }
            for (int what : new int[] {-1, 3, 4, 256, MIN, MAX}) {
                due("best(1, " + what + ")", plain(1).best(1, what), -107);
                due("best(3, " + what + ") of none", new Used().best(3, what), -107);
            }
            due("the last ones", plain(5).best(3, 2), 0);
        });
        sentence(20, "-103: no ENVOYS.", () -> {
            for (int turns = 1; turns <= 3; turns++) {
                for (int what = 0; what < 3; what++) {
                    due("best(" + turns + ", " + what + ")", new Used().best(turns, what), -103);
                }
            }
            due("of one", plain(1).best(1, 0), 0);
        });
    }

    private static void canForce() {
        sentence(21, "Whether some (bits of ENVOYS) can FORCE it to a PLACE, so many (0 .. 4) TURNS yet (1, 0).", () -> {
            Used x = plain(1);
            for (int turns = 0; turns <= 4; turns++) {
                for (int p = 0; p < 19; p++) {
                    int far = Math.min(p, 19 - p);
                    due("canForce(1, " + p + ", " + turns + ")", x.canForce(1, p, turns), far <= 2 * turns ? 1 : 0);
                    due("canForce(0, " + p + ", " + turns + ")", x.canForce(0, p, turns), turns == 0 && p == 0 ? 1 : 0);
                }
            }
            Used y = plain(5);
            due("all of five", y.canForce(31, 8, 4), 1);
            due("all but the fourth", y.canForce(23, 8, 4), 0);
            due("the first alone", y.canForce(1, 18, 1), 1);
            due("the last alone has no turn", y.canForce(16, 0, 4), 0);
        });
        sentence(21, "BAD", () -> {
            for (int m = 0; m <= 5; m++) {
                Used x = plain(m);
                due("some, all of " + m, x.canForce((1 << m) - 1, 0, 0), m == 0 ? STATE : 1);
                for (int some : new int[] {1 << m, -1, (1 << m) + 1, 64, MIN, MAX}) {
                    due("some " + some + " of " + m, x.canForce(some, 0, 0), BAD);
                }
                for (int p : new int[] {-1, 19, 20, MIN, MAX}) {
                    due("at " + p, x.canForce(0, p, 1), BAD);
                }
                for (int turns : new int[] {-1, 5, 6, MIN, MAX}) {
                    due("turns " + turns, x.canForce(0, 0, turns), BAD);
                }
            }
            Used x = plain(1);
            x.set(0, 3);
            due("at 3 of 3", x.canForce(1, 3, 1), BAD);
            due("at 2 of 3", x.canForce(1, 2, 1), 1);
        });
        sentence(21, "STATE: no ENVOYS.", () -> {
            due("no envoys", new Used().canForce(0, 0, 0), STATE);
            due("no envoys", new Used().canForce(0, 18, 4), STATE);
            due("one", plain(1).canForce(0, 0, 0), 1);
        });
    }

    private static void reach() {
        sentence(22, "PLACES (bits) to which they can.", () -> {
            Used x = plain(1);
            int[] due = {1, bits(17, 18, 0, 1, 2), bits(15, 16, 17, 18, 0, 1, 2, 3, 4),
                bits(13, 14, 15, 16, 17, 18, 0, 1, 2, 3, 4, 5, 6),
                bits(11, 12, 13, 14, 15, 16, 17, 18, 0, 1, 2, 3, 4, 5, 6, 7, 8)};
            for (int turns = 0; turns <= 4; turns++) {
                due("reach(1, " + turns + ")", x.reach(1, turns), due[turns]);
                due("reach(0, " + turns + ")", x.reach(0, turns), turns == 0 ? 1 : 0);
            }
            x.set(1, 18);
            due("the last place", x.reach(0, 0), 1 << 18);
            due("from the last place", x.reach(1, 1), bits(16, 17, 18, 0, 1));
            Used y = with(1, 9);
            due("all of 19 places", y.reach(1, 3), (1 << 19) - 1);
            y.set(0, 3);
            due("all of 3 places", y.reach(1, 1), 7);
            due("where it is", y.reach(1, 0), 1);
            // whatever an image keeps
            y.image();
            y.set(0, 19);
            due("from 0, two turns", y.reach(1, 2), bits(11, 12, 13, 14, 15, 16, 17, 18, 0, 1, 2, 3, 4, 5, 6, 7, 8));
            y.set(1, 18);
            due("from 18", y.reach(1, 1), bits(14, 15, 16, 17, 18, 0, 1, 2, 3));
        });
        sentence(22, "BAD; STATE likewise.", () -> {
            for (int m = 0; m <= 5; m++) {
                Used x = plain(m);
                due("some, all of " + m, x.reach((1 << m) - 1, 0), m == 0 ? STATE : 1);
                for (int some : new int[] {1 << m, -1, (1 << m) + 1, 64, MIN, MAX}) {
                    due("some " + some + " of " + m, x.reach(some, 0), BAD);
                }
                for (int turns : new int[] {-1, 5, 6, MIN, MAX}) {
                    due("turns " + turns, x.reach(0, turns), BAD);
                }
            }
            due("no envoys", new Used().reach(0, 0), STATE);
            due("no envoys", new Used().reach(0, 4), STATE);
        });
    }

    private static void loosest() {
        sentence(23, "The REASON which, were it one's LAST REASON, would leave most steps that one MAY GO now, of like ones the"
            + " first (what 0), how many (1).", () -> {
                Used x = plain(2);
                loose("reason 3 alone allows to stay", x, 0, 3, 5);
                x.move(0, 1);
                loose("of one whose turn it is not", x, 0, 3, 5);
                loose("like ones: a rash one can't stay", with(3, 9), 0, 0, 8);
                loose("one of 9", with(1, 9), 0, 3, 9);
                for (int reason = 0; reason < 4; reason++) {
                    Used y = with(0, 0);
                    law(y, "allows reason=" + reason + ";worth 0;price 0;");
                    loose("reason " + reason + " alone", y, 0, reason, 5);
                    Used z = with(2, reason);
                    law(z, "allows 0;worth 0;price 0;");
                    loose("a sly one is not bound by " + reason, z, 0, reason, 5);
                }
                Used now = by("turn=0", "0", 0, 0, 0, 0);
                loose("now, in the turn of the other", now, 1, 0, 5);
                now.move(0, 0);
                loose("now, in one's own turn", now, 1, 0, 0);
                Used none = with(0, 0);
                law(none, "allows 0;worth 0;price 0;");
                loose("none by any, the first", none, 0, 0, 0);
                law(none, "allows reason<0 or reason=4;worth 0;price 0;");
                loose("no reason ahead of 0, none behind 3", none, 0, 0, 0);
                Used two = with(0, 0);
                law(two, "allows reason=1 and step<1 or reason=2 and 0-1<step;worth 0;price 0;");
                loose("3 by 1, 3 by 2", two, 0, 1, 3);
                law(two, "allows reason=1 and step<1 or reason=2 and 0-2<step;worth 0;price 0;");
                loose("3 by 1, 4 by 2", two, 0, 2, 4);
                law(two, "allows stone+step=3 or reason=2 and step=0 and turn=1;worth 0;price 0;");
                loose("now: from 0, in turn 0", two, 0, 0, 0);
                two.set(1, 2);
                loose("now: from 2", two, 0, 0, 1);
                two.move(0, 3);
                loose("now: in turn 1", two, 0, 2, 2);
                due("the last reason", two.told(0, 3), 3);
                loose("an old one of 5", with(4, 5), 0, 0, 3);
            });
        sentence(23, "-5: no such ENVOY", () -> {
            for (int m = 0; m <= 5; m++) {
                Used x = plain(m);
                for (int e : new int[] {-1, m, m + 1, MIN, MAX}) {
                    due("loosest(" + e + ", 0) of " + m, x.loosest(e, 0), -5);
                    due("loosest(" + e + ", 2) of " + m + ", ahead of what", x.loosest(e, 2), -5);
                }
                due("the last one", m == 0 ? 5 : x.loosest(m - 1, 1), 5);
            }
        });
        sentence(23, "-7: what.", () -> {
            for (int what : new int[] {-1, 2, 3, 256, MIN, MAX}) {
                due("loosest(0, " + what + ")", plain(1).loosest(0, what), -7);
            }
        });
    }

    private static void loose(String how, Used x, int e, int reason, int many) {
        due(how + ": the reason", x.loosest(e, 0), reason);
        due(how + ": how many", x.loosest(e, 1), many);
    }

    private static void deals() {
        sentence(24, "Of all deals of WISHES (to each another one) those by which just many (0 .. 5) wish THE WINNER as THE STONE"
            + " is: how many (what 0), all (1).", () -> {
                int[][] want = {{0, 1, 0, 0, 0, 0}, {2, 4, 2, 0, 0, 0}, {24, 36, 18, 3, 0, 0}, {324, 432, 216, 48, 4, 0}};
                int[] all = {1, 8, 81, 1024};
                for (int m = 2; m <= 5; m++) {
                    Used x = plain(m);
                    for (int stone = 0; stone < 19; stone += 6) {
                        x.set(1, stone);
                        for (int many = 0; many <= 5; many++) {
                            due(many + " of " + m, x.deals(many, 0), want[m - 2][many]);
                            due("all of " + m, x.deals(many, 1), all[m - 2]);
                        }
                    }
                    x.move(1, 3);
                    x.hope(0, m - 1);
                    due("whatever they truly wish", x.deals(1, 0), want[m - 2][1]);
                }
            });
        sentence(24, "BAD", () -> {
            for (int many : new int[] {-1, 6, 7, MIN, MAX}) {
                due("deals(" + many + ", 0)", plain(5).deals(many, 0), BAD);
                due("deals(" + many + ", 1) of none", new Used().deals(many, 1), BAD);
            }
            for (int what : new int[] {-1, 2, 3, MIN, MAX}) {
                due("deals(0, " + what + ")", plain(5).deals(0, what), BAD);
                due("deals(5, " + what + ") of one", plain(1).deals(5, what), BAD);
            }
        });
        sentence(24, "STATE: there are less than 2 ENVOYS.", () -> {
            due("none", new Used().deals(0, 0), STATE);
            due("none", new Used().deals(5, 1), STATE);
            due("one", plain(1).deals(0, 0), STATE);
            due("one", plain(1).deals(5, 1), STATE);
            due("two", plain(2).deals(1, 0), 1);
        });
    }
}
