import java.util.Arrays;

/** Told games: promises 25 to 30. */
final class EdgeTold extends Edge {
    static void run() {
        judge();
        end();
        kinds();
        starts();
        laws();
        film();
    }

    interface CallOfSheet {
        int of(Used x, int s);
    }

    private static void noSuchSheet(String call, CallOfSheet asks) {
        for (int s : new int[] {-1, 4, 5, MIN, MAX}) {
            due(call + " of sheet " + s, asks.of(plain(1), s), BAD);
            due(call + " of sheet " + s + " and no envoys", asks.of(new Used(), s), BAD);
        }
        for (int s = 0; s < 4; s++) {
            Used x = plain(1);
            row(x, s, 1, 1, 3);
            due(call + " of sheet " + s, asks.of(x, s) > BAD ? 1 : 0, 1);
        }
    }

    private static void nothingThere(String call, CallOfSheet asks) {
        for (int s = 0; s < 4; s++) {
            due(call + " of a new one's sheet " + s, asks.of(new Used(), s), -11);
            Used x = plain(2);
            row(x, s, 0, 1, 0);
            due(call + " of a sheet", asks.of(x, s) > BAD ? 1 : 0, 1);
            x.sheet(s, -1, 0);
            due(call + " of one that is missing again", asks.of(x, s), -11);
        }
    }

    private static void noMoves(String call, CallOfSheet asks) {
        for (int size = 0; size <= 40; size++) {
            Used x = with(3, 9);
            Used none = new Used();
            x.sheet(1, size % 3, size);
            none.sheet(1, size % 3, size);
            due(call + " of " + size + " numbers", asks.of(x, 1) == BAD ? 1 : 0, size % 2);
            due(call + " of " + size + " numbers and no envoys", asks.of(none, 1), size % 2 == 1 ? BAD : STATE);
        }
        for (int sort = 0; sort < 3; sort++) {
            for (int place = 0; place < 40; place += 13) {
                for (int v : new int[] {-5, -4, -1, 0, 3, 4, 5, -128, 127}) {
                    boolean good = place % 2 == 0 ? v >= -4 && v <= 4 : v >= 0 && v <= 3;
                    Used x = plain(1);
                    x.sheet(0, sort, 40);
                    x.cell(0, place, v);
                    due(call + " with " + v + " at " + place, asks.of(x, 0) == BAD ? 1 : 0, good ? 0 : 1);
                    Used none = new Used();
                    none.sheet(0, sort, 40);
                    none.cell(0, place, v);
                    due(call + " with " + v + " at " + place + " and no envoys", asks.of(none, 0), good ? STATE : BAD);
                }
            }
        }
        // what a byte, a short can't hold an int can
        for (int v : new int[] {256, 65536, MIN, MAX}) {
            Used x = plain(1);
            row(x, 0, 2, v, 0);
            due(call + " with a step " + v, asks.of(x, 0), BAD);
            row(x, 0, 2, 0, v);
            due(call + " with a reason " + v, asks.of(x, 0), BAD);
        }
    }

    private static void noEnvoys(String call, CallOfSheet asks) {
        Used x = new Used();
        row(x, 0, 0);
        due(call + ", no envoys, no moves told", asks.of(x, 0), STATE);
        row(x, 0, 0, 1, 1);
        due(call + ", no envoys", asks.of(x, 0), STATE);
        x.envoy(0, 0);
        due(call + ", one", asks.of(x, 0) > BAD ? 1 : 0, 1);
    }

    private static void likewise(int promise, String words, String call, CallOfSheet asks, CallOfSheet wrong) {
        sentence(promise, words, () -> {
            noSuchSheet(call, asks);
            nothingThere(call, asks);
            noMoves(call, asks);
            noEnvoys(call, asks);
            if (wrong != null) {
                // ahead of what else is wrong
                Used x = new Used();
                due(call + ", sheet 4", wrong.of(x, 4), BAD);
                due(call + ", missing", wrong.of(x, 0), -11);
                row(x, 0, 0, 5, 0);
                due(call + ", no step", wrong.of(x, 0), BAD);
                row(x, 0, 0, 1, 0);
                due(call + ", no envoys", wrong.of(x, 0), STATE);
            }
        });
    }

    private static void judge() {
        sentence(25, "A SHEET tells MOVES from now on, two by two: a step, a REASON, in thought, by whose TURN it is: the first (from"
            + " 0) that MAY not be; -1: none.", () -> {
                for (int sort = 0; sort < 3; sort++) {
                    Used x = with(0, 0, 5, 0);
                    row(x, 0, sort);
                    due("no moves told", x.judge(0), -1);
                    row(x, 0, sort, 2, 0);
                    due("the first may be", x.judge(0), -1);
                    row(x, 0, sort, 3, 0);
                    due("the first may not", x.judge(0), 0);
                    row(x, 0, sort, 2, 0, 1, 0);
                    due("the second may be", x.judge(0), -1);
                    row(x, 0, sort, 2, 0, 2, 0);
                    due("the second may not", x.judge(0), 1);
                    row(x, 0, sort, 3, 0, 2, 0, 4, 0);
                    due("the first of some", x.judge(0), 0);
                    row(x, 0, sort, 2, 0, 0, 0, 0, 0);
                    due("bound by a reason that is told", x.judge(0), 2);
                    row(x, 0, sort, 2, 3, 0, 0, 0, 0);
                    due("reason 3", x.judge(0), -1);
                    row(x, 0, sort, 2, 3, 0, 0, 0, 0, 0, 0);
                    due("bound by what the second told", x.judge(0), 3);
                    x.sheet(0, sort, 40);
                    for (int i = 1; i < 40; i += 2) {
                        x.cell(0, i, 3);
                    }
                    due("twenty", x.judge(0), -1);
                    x.cell(0, 38, -2);
                    due("the last of twenty", x.judge(0), 19);
                    x.cell(0, 38, -1);
                    due("the last of twenty may be", x.judge(0), -1);
                    x.move(1, 0);
                    due("from now on: the last is of the other one, the second bound by 0", x.judge(0), 1);
                }
                Used y = plain(1);
                law(y, "allows turn=2 and stone=1;worth 0;price 0;");
                y.move(2, 0);
                row(y, 0, 1, -1, 1, 2, 1);
                // turn 1: not allowed
                due("by the turn", y.judge(0), 0);
                y.move(-1, 0);
                due("by the turn and the stone", y.judge(0), 1);
            });
        likewise(25, "BAD: SHEET; -11; BAD: its size isn't by twos, a step, a REASON; STATE: no ENVOYS.", "judge",
            (x, s) -> x.judge(s), null);
    }

    private static void end() {
        sentence(26, "Behind all of them (also such as MAY not be): where THE STONE is (what 0), THE WINNER (1), how many have that"
            + " WISH (2).", () -> {
                // HOMES 0, 6, 12; wishes 1, 2, 0
                Used x = plain(3);
                ends("none told", x, 0, 0, 1);
                ends("one", x, 2, 0, 1, 2, 0);
                ends("one that may not be", x, 4, 1, 1, 4, 0);
                ends("two, over the first", x, 16, 0, 1, -4, 0, 1, 0);
                ends("the third to the left", x, 4, 1, 1, 4, 0, 4, 0, 4, 0);
                ends("from the first to the last", x, 18, 0, 1, -1, 0);
                x.hope(2, 1);
                ends("two wish 1", x, 4, 1, 2, 4, 0);
                ends("none wishes 0", x, 0, 0, 0, 4, 0, -4, 0);
                x.move(0, 0);
                x.set(1, 17);
                ends("from now on: the second is the third turn", x, 16, 0, 0, 1, 0, 2, 0);
                x.sheet(0, 1, 40);
                x.cell(0, 38, 4);
                due("the last of twenty, in turn 20, to the left", x.end(0, 0), 13);
                x.cell(0, 39, 3);
                due("where the stone is", x.count(2), 17);
                due("a call", x.call(2, 0), 2);
                x.set(1, 7);
                ends("also one whose CARD is shown wishes 1", x, 7, 1, 2);
            });
        likewise(26, "BAD, -11, BAD, STATE likewise", "end", (x, s) -> x.end(s, 0), (x, s) -> x.end(s, 3));
        sentence(26, "-7: what.", () -> {
            Used x = plain(1);
            row(x, 0, 0, 1, 0);
            for (int what : new int[] {-1, 3, 4, 256, MIN, MAX}) {
                due("end(0, " + what + ")", x.end(0, what), -7);
            }
            due("the first", x.end(0, 0), 1);
            due("the last", x.end(0, 2), 1);
        });
    }

    private static void ends(String how, Used x, int stone, int winner, int many, int... moves) {
        row(x, 0, 1, moves);
        due(how + ": the stone", x.end(0, 0), stone);
        due(how + ": the winner", x.end(0, 1), winner);
        due(how + ": how many", x.end(0, 2), many);
    }

    private static void kinds() {
        sentence(27, "KINDS (sort 0; bits 0 .. 5), MORE (1; bits 0 .. 9) by which, were they an ENVOY's, judge() would be -1.", () -> {
            Used x = with(0, 8, 0, 0);
            kindsOf(x, bits(0, 1, 2, 3, 4, 5), 1023);
            kindsOf(x, bits(0, 1, 2, 3, 4, 5), 1023, 1, 0);
            kindsOf(x, bits(0, 1, 2, 4, 5), 1023, 0, 0);
            kindsOf(x, bits(0, 1, 2, 3), 1023, 2, 0);
            kindsOf(x, bits(1, 3), 0, 3, 0);
            kindsOf(x, 0, 0, 4, 0);
            kindsOf(with(0, 9, 0, 0), bits(1, 3), 0, 4, 0);
            kindsOf(with(1, 0, 0, 0), 0, bits(9), 4, 0);
            kindsOf(with(1, 0, 0, 0), bits(1, 3), 1023, 3, 0);
            kindsOf(with(3, 0, 0, 0), bits(0, 1, 2, 4, 5), 0, 0, 0);
            // bound by 0: a sly of 8, an old are not
            kindsOf(x, bits(2, 4), 0, 1, 0, 1, 0, 0, 3);
            kindsOf(with(2, 1, 0, 0), bits(4), bits(0, 4, 8), 1, 0, 1, 0, 0, 3);
            // bound by 2: an old of 5 or more, or 2
            law(x, "allows 0;worth 0;price 0;");
            kindsOf(x, bits(4), 0, 1, 2, 1, 0, 1, 3);
            Used old = with(4, 0, 0, 0);
            law(old, "allows 0;worth 0;price 0;");
            kindsOf(old, 0, bits(2, 5, 6, 7, 8, 9), 1, 2, 1, 0, 1, 3);
            // of the other one: by it what the first told is not mended
            row(x, 0, 1, 3, 0, 1, 0);
            due("of 1", x.kinds(0, 1, 0), 0);
            row(x, 0, 1, 2, 0, 3, 0);
            due("of 1: who is bold", x.kinds(0, 1, 0), bits(1, 3));
            due("of 0", x.kinds(0, 0, 0), 0);
            // bound truly
            Used y = with(0, 2);
            law(y, "allows more=7;worth 0;price 0;");
            y.move(0, 2);
            row(y, 0, 1, 1, 0);
            due("a sly of 2, an old", y.kinds(0, 0, 0), bits(2, 4));
            due("by the law more 7", y.kinds(0, 0, 1), bits(7));
            due("the kind stays", y.told(0, 0), 0);
            due("more stays", y.told(0, 1), 2);
            asking("kinds", States::rich, z -> z.kinds(0, 1, 0) + z.kinds(1, 2, 1));
        });
        likewise(27, "BAD, -11, BAD, STATE likewise", "kinds", (x, s) -> x.kinds(s, 0, 1), (x, s) -> x.kinds(s, 9, 9));
        sentence(27, "-5: no such ENVOY", () -> {
            for (int m = 1; m <= 5; m++) {
                Used x = plain(m);
                row(x, 0, 0, 1, 0);
                for (int e : new int[] {-1, m, m + 1, MIN, MAX}) {
                    due("kinds(0, " + e + ", 0) of " + m, x.kinds(0, e, 0), -5);
                    due("kinds(0, " + e + ", 2) of " + m + ", ahead of sort", x.kinds(0, e, 2), -5);
                }
                due("the last one", x.kinds(0, m - 1, 0), 63);
            }
        });
        sentence(27, "-7: sort.", () -> {
            Used x = plain(1);
            row(x, 0, 0, 1, 0);
            for (int sort : new int[] {-1, 2, 3, MIN, MAX}) {
                due("kinds(0, 0, " + sort + ")", x.kinds(0, 0, sort), -7);
            }
            due("sort 0", x.kinds(0, 0, 0), 63);
            due("sort 1", x.kinds(0, 0, 1), 1023);
        });
    }

    private static void kindsOf(Used x, int kinds, int mores, int... moves) {
        row(x, 0, 1, moves);
        due("kinds of 0 by " + Arrays.toString(moves), x.kinds(0, 0, 0), kinds);
        due("mores of 0 by " + Arrays.toString(moves), x.kinds(0, 0, 1), mores);
    }

    private static void starts() {
        sentence(28, "PLACES (bits) by which, were THE STONE there now, judge() would be -1 (what 100 times any PLACE), or it would end"
            + " on a PLACE (what 100 times that, and 1).", () -> {
                int all = (1 << 19) - 1;
                Used x = plain(1);
                row(x, 0, 0);
                due("no moves", x.starts(0, 0), all);
                due("ends on 0", x.starts(0, 1), bits(0));
                due("ends on 18", x.starts(0, 1801), bits(18));
                row(x, 0, 0, 2, 0);
                due("from any", x.starts(0, 1800), all);
                due("from any", x.starts(0, 900), all);
                due("ends on 0", x.starts(0, 1), bits(17));
                due("ends on 1", x.starts(0, 101), bits(18));
                due("ends on 18", x.starts(0, 1801), bits(16));
                row(x, 0, 0, 3, 0);
                due("from none", x.starts(0, 0), 0);
                due("it ends all the same", x.starts(0, 301), bits(0));
                law(x, "allows stone=1 or stone=18;worth 0;price 0;");
                row(x, 0, 0, 1, 0, 1, 0);
                due("behind the first 1 or 18", x.starts(0, 0), bits(0, 17));
                x.set(0, 3);
                due("of 3", x.starts(0, 0), bits(0));
                due("of 3", x.starts(0, 200), bits(0));
                due("of 3 ends on 2", x.starts(0, 201), bits(0));
                due("the stone", x.count(2), 0);
                x.move(0, 0);
                // turn 1, the second to the left: bound from the first on
                due("bound now", x.starts(0, 0), 0);
                due("turn 2 is to the left", x.starts(0, 101), bits(1));
            });
        likewise(28, "BAD, -11, BAD, STATE likewise", "starts", (x, s) -> x.starts(s, 100), (x, s) -> x.starts(s, 2));
        sentence(28, "-7: what.", () -> {
            for (int n = 3; n <= 19; n++) {
                Used x = plain(1);
                x.set(0, n);
                row(x, 0, 0, 0, 3);
                due("no place of " + n + ", ahead of all else", x.starts(0, 100 * n), -7);
                due("the last place of " + n, x.starts(0, 100 * n - 100), (1 << n) - 1);
                due("the last place of " + n, x.starts(0, 100 * n - 99), 1 << n - 1);
                due("no place of " + n, x.starts(0, 100 * n), -7);
                due("no place of " + n, x.starts(0, 100 * n + 1), -7);
                due("behind the last place of " + n, x.starts(0, 100 * n - 98), -7);
            }
            Used x = plain(1);
            row(x, 0, 0, 0, 3);
            for (int what : new int[] {-1, -99, -100, -101, 2, 3, 50, 98, 99, 102, 199, 1802, 1899, 1900, 1901, MIN, MIN + 1,
                MAX, MAX - 46}) {
                due("starts(0, " + what + ")", x.starts(0, what), -7);
            }
        });
    }

    private static void laws() {
        sentence(29, "TEXTS (bits), were they THE LAW, by which judge() would be -1.", () -> {
            Used x = plain(1);
            row(x, 0, 0, 2, 1, 0, 1);
            due("text 0 alone: it forbids to stay by 1", x.laws(0), 0);
            row(x, 0, 0, 2, 1, 1, 1);
            due("text 0 alone", x.laws(0), 1);
            for (int t = 1; t < 6; t++) {
                text(x, "allows reason=" + (t - 1) + ";worth 0;price 0;");
                row(x, 0, 0, 2, 1, 1, 1);
                due("by text 0 and reason 1", x.laws(0), t >= 2 ? bits(0, 2) : bits(0));
                row(x, 0, 0, 2, t - 1 & 3, 0, 1);
                due("by text " + t, x.laws(0), t == 4 ? bits(0, 4) : t == 5 ? bits(1) : bits(t));
            }
            row(x, 0, 0);
            due("all, by none told", x.laws(0), 63);
            row(x, 0, 0, 3, 0);
            due("none", x.laws(0), 0);
            due("the law", x.count(6), 0);
            x.force(5);
            row(x, 0, 0, 2, 1, 1, 1);
            due("whatever the law is", x.laws(0), bits(0, 2));
            due("the law", x.count(6), 5);
            Used y = plain(1);
            text(y, "allows reason=1;worth 0;price 0;");
            row(y, 0, 0, 1, 0);
            row(y, 1, 0, 0, 0);
            y.move(0, 2);
            due("bound by the reason that was given: to go", y.laws(0), bits(0));
            due("to stay", y.laws(1), 0);
            y.move(0, 1);
            due("by reason 1 to go", y.laws(0), bits(0, 1));
            due("to stay", y.laws(1), bits(1));
        });
        likewise(29, "BAD, -11, BAD, STATE likewise.", "laws", (x, s) -> x.laws(s), null);
    }

    /** A step of a sheet of bytes, by one alone who is bold, of 9, whom the law doesn't bind yet, from 0 in turn 0. */
    private static int stepOf(Used x, int s, int k) {
        x.sheet(3, 0, 2);
        x.copy(s, 2 * k, 3, 0, 2);
        int end = x.end(3, 0);
        return end > 4 ? end - 19 : end;
    }

    /** A reason, by texts 1 to 4 of which each allows by its own. */
    private static int reasonOf(Used x, int s, int k) {
        x.sheet(3, 0, 4);
        x.copy(s, 2 * k, 3, 0, 2);
        return Integer.numberOfTrailingZeros(x.laws(3) >> 1 & 15);
    }

    private static Used filmed(int moves) {
        Used x = with(1, 9);
        for (int reason = 0; reason < 4; reason++) {
            text(x, "allows reason=" + reason + ";worth 0;price 0;");
        }
        x.image();
        for (int k = 0; k < moves; k++) {
            x.move(k % 9 - 4, k % 4);
        }
        return x;
    }

    private static void film() {
        sentence(30, "A SHEET truly becomes steps and REASONS of MOVES from number from (0 .. 60) on (20 at most; bytes): how many.",
            () -> {
                int[][] films = {{0, 0, 0}, {0, 60, 0}, {1, 0, 1}, {1, 1, 0}, {1, 60, 0}, {19, 0, 19}, {20, 0, 20}, {21, 0, 20},
                    {21, 1, 20}, {21, 2, 19}, {60, 0, 20}, {60, 39, 20}, {60, 40, 20}, {60, 41, 19}, {60, 59, 1}, {60, 60, 0}};
                for (int[] f : films) {
                    Used x = filmed(f[0]);
                    x.sheet(1, 2, 40);
                    x.cell(1, 0, 77);
                    due("film(1, " + f[1] + ") of " + f[0], x.film(1, f[1]), f[2]);
                    x.back();
                    for (int k = 0; k < f[2]; k++) {
                        due("step " + k, stepOf(x, 1, k), (f[1] + k) % 9 - 4);
                        due("reason " + k, reasonOf(x, 1, k), (f[1] + k) % 4);
                    }
                    due("its last number", x.cell(1, 2 * f[2] - 1, 0), f[2] == 0 ? -12 : 1);
                    due("behind its last number", x.cell(1, 2 * f[2], 0), -12);
                    due("of bytes, not shorts", x.envoysBy(1, 1, 0, 1), -13);
                    due("of bytes, not ints", x.envoysBy(1, 2, 0, 1), -13);
                    due("no other sheet", x.judge(2), -11);
                }
                Used y = plain(1);
                y.film(2, 0);
                due("a row of none", y.judge(2), -1);
            });
        sentence(30, "BAD.", () -> {
            for (int s : new int[] {-1, 4, 5, MIN, MAX}) {
                refused("film(" + s + ", 0)", States::rich, x -> x.film(s, 0), BAD);
            }
            for (int from : new int[] {-1, 61, 62, MIN, MAX}) {
                refused("film(0, " + from + ")", States::rich, x -> x.film(0, from), BAD);
                refused("film(3, " + from + ")", States::full, x -> x.film(3, from), BAD);
            }
            due("the last sheet, the first move", States.full().film(3, 0), 20);
            due("the first sheet, behind the last move", States.full().film(0, 60), 0);
        });
    }
}
