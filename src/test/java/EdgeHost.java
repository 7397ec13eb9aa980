import java.util.function.ToLongFunction;

/** The host: promises 35 to 39, and the terms on which they rest, refusals and questions. */
final class EdgeHost extends Edge {
    private static final int[] NO_SHEET = {-1, 4, 5, 256, MIN, MAX};

    static void run() {
        terms();
        changeNothing();
        sheet();
        cell();
        copy();
        envoysBy();
        taken();
    }

    /** The sort of a sheet, as a sheet that may be copied to it tells; -1: missing. */
    private static int sortOf(Used x, int s, int other) {
        for (int sort = 0; sort < 3; sort++) {
            x.sheet(other, sort, 1);
            if (x.copy(other, 0, s, 0, 0) == 0) {
                return sort;
            }
        }
        return -1;
    }

    /** How many numbers a sheet has, whose numbers are lost by it. */
    private static int sizeOf(Used x, int s) {
        int size = 0;
        while (size < 41 && x.cell(s, size, 0) == 1) {
            size++;
        }
        return size;
    }

    /** A number of a sheet, 0 .. 5, as the kind of an envoy who comes by it and its right neighbour; none is kept. */
    private static int number(Used x, int s, int sort, int i) {
        due("an image of none", x.image(), 0);
        due("one comes", x.envoysBy(s, sort, i, 1), 1);
        int v = x.told(0, 0);
        x.back();
        return v;
    }

    private static void numbers(String how, Used x, int s, int sort, int... want) {
        for (int i = 0; i < want.length; i++) {
            due(how + ": number " + i, number(x, s, sort, i), want[i]);
        }
    }

    private static void terms() {
        sentence(TERMS, "SHEETS 0 .. 3 are rows of numbers, or missing (as all are at first): of sort 0 bytes, 1 shorts, 2 ints, 40 at"
            + " most.", () -> {
                for (int s = 0; s < 4; s++) {
                    due("missing at first", new Used().cell(s, 0, 0), -11);
                    due("missing at first", plain(1).judge(s), -11);
                    for (int sort = 0; sort < 3; sort++) {
                        for (int size : new int[] {0, 1, 39, 40}) {
                            Used x = new Used();
                            due("sheet " + s, x.sheet(s, sort, size), 1);
                            due("its sort", sortOf(x, s, (s + 1) % 4), sort);
                            due("its size", sizeOf(x, s), size);
                            due("no other one", x.cell((s + 2) % 4, 0, 0), -11);
                        }
                    }
                }
                due("no sheet 4", new Used().sheet(4, 0, 1), BAD);
                due("no sheet -1", new Used().sheet(-1, 0, 1), BAD);
                due("no 41 numbers", new Used().sheet(0, 0, 41), BAD);
                due("no sort 3", new Used().sheet(0, 3, 1), BAD);
            });
        sentence(TERMS, "REFUSALS, of several the first one told: NONE there is no such thing; BAD a number is not as told; STATE as told;"
            + " FULL.", () -> {
                due("NONE", Ambassadors.NONE, -1);
                due("BAD", Ambassadors.BAD, -2);
                due("STATE", Ambassadors.STATE, -3);
                due("FULL", Ambassadors.FULL, -4);
                due("NO", Ambassadors.NO, -4611686018427387904L);
                due("set: -5 ahead of -7", States.rich().set(2, 99), -5);
                due("set: -7 ahead of STATE", States.rich().set(0, 99), -7);
                due("feed: BAD ahead of FULL", States.full().feed(1, 256, 0, 0, 0, 0), BAD);
                due("envoy: BAD ahead of STATE", States.full().envoy(6, 0), BAD);
                due("envoy: STATE ahead of FULL", States.full().envoy(0, 0), STATE);
                due("hope: -5 ahead of -7", States.rich().hope(3, 3), -5);
                due("told: -5 ahead of -7", States.rich().told(3, 7), -5);
                due("winner: BAD ahead of NONE", new Used().winner(19), BAD);
                due("move: -7 ahead of STATE", new Used().move(5, 0), -7);
                due("move: -7 ahead of FULL", States.full().move(0, 4), -7);
                due("moved: -105 ahead of -107", new Used().moved(0, 5), -105);
                due("broken: -5 ahead of -7", new Used().broken(0, 61), -5);
                due("call: -5 ahead of STATE", plain(2).call(0, 0), -5);
                due("best: -107 ahead of -103", new Used().best(4, 0), -107);
                due("canForce: BAD ahead of STATE", new Used().canForce(0, 0, 5), BAD);
                due("reach: BAD ahead of STATE", new Used().reach(0, 5), BAD);
                due("loosest: -5 ahead of -7", new Used().loosest(0, 2), -5);
                due("deals: BAD ahead of STATE", new Used().deals(6, 0), BAD);
                due("drawn: BAD ahead of STATE", new Used().drawn(0, 41, 0), BAD);
                due("sheet: BAD ahead of -14", new Used().sheet(0, 3, -1), BAD);
                due("copy: BAD ahead of -11", new Used().copy(0, 0, 4, 0, 0), BAD);
                due("copy: -11 ahead of -12", new Used().copy(0, 9, 1, 9, 9), -11);
                due("envoysBy: BAD ahead of -11", new Used().envoysBy(0, 3, 0, 1), BAD);
                due("envoysBy: -11 ahead of -12", new Used().envoysBy(0, 0, 99, 1), -11);
                due("taken: BAD ahead of -12", new Used().taken(65, 7), BAD);
                due("taken: -12 ahead of -11", new Used().taken(65, 0), -12);
            });
        sentence(TERMS, "The host's: -11 nothing there, -12 a place outside, -13 of another sort or KIND, -14 a size below 0.", () -> {
            due("-11", new Used().cell(0, 0, 0), -11);
            due("-11", new Used().taken(0, 0), -11);
            Used x = with(0, 0);
            x.sheet(0, 0, 1);
            x.sheet(1, 1, 1);
            due("-12", x.cell(0, 1, 0), -12);
            due("-12", x.taken(65, 0), -12);
            due("-13", x.copy(0, 0, 1, 0, 1), -13);
            due("-13", x.taken(0, 1), -13);
            due("-14", x.sheet(0, 0, -1), -14);
        });
    }

    private static void changeNothing() {
        sentence(TERMS, "They change nothing, but where it is told.", () -> {
            refusedAll("count(8)", x -> x.count(8), BAD);
            refusedAll("set(2, 5)", x -> x.set(2, 5), -5);
            refusedAll("set(0, 20)", x -> x.set(0, 20), -7);
            refusedAll("set(1, 19)", x -> x.set(1, 19), -7);
            refusedAll("feed(6, ..)", x -> x.feed(6, 97, 98, 99, 32, 59), BAD);
            refusedAll("feed(5, .. 256)", x -> x.feed(5, 97, 98, 99, 32, 256), BAD);
            refusedAll("force(6)", x -> x.force(6), BAD);
            refusedAll("asks(0, 5, 4, 0)", x -> x.asks(0, 5, 4, 0), -1000);
            refusedAll("envoy(6, 0)", x -> x.envoy(6, 0), BAD);
            refusedAll("envoy(0, 10)", x -> x.envoy(0, 10), BAD);
            refusedAll("hope(5, 0)", x -> x.hope(5, 0), -5);
            refusedAll("told(5, 0)", x -> x.told(5, 0), -5);
            refusedAll("winner(19)", x -> x.winner(19), BAD);
            refusedAll("move(5, 0)", x -> x.move(5, 0), -7);
            refusedAll("move(0, 4)", x -> x.move(0, 4), -7);
            refusedAll("moved(60, 0)", x -> x.moved(60, 0), -105);
            refusedAll("broken(5, 0)", x -> x.broken(5, 0), -5);
            refusedAll("broken(-1, 61)", x -> x.broken(-1, 61), -7);
            refusedAll("may(5)", x -> x.may(5), -5);
            refusedAll("call(0, 0)", x -> x.call(0, 0), -5);
            refusedAll("call(0, 5)", x -> x.call(0, 5), -5);
            refusedAll("worth(0, 0, 0)", x -> x.worth(0, 0, 0), NO);
            refusedAll("best(4, 0)", x -> x.best(4, 0), -107);
            refusedAll("canForce(32, 0, 0)", x -> x.canForce(32, 0, 0), BAD);
            refusedAll("reach(0, 5)", x -> x.reach(0, 5), BAD);
            refusedAll("loosest(5, 0)", x -> x.loosest(5, 0), -5);
            refusedAll("deals(6, 0)", x -> x.deals(6, 0), BAD);
            refusedAll("judge(4)", x -> x.judge(4), BAD);
            refusedAll("end(4, 0)", x -> x.end(4, 0), BAD);
            refusedAll("kinds(4, 0, 0)", x -> x.kinds(4, 0, 0), BAD);
            refusedAll("starts(4, 0)", x -> x.starts(4, 0), BAD);
            refusedAll("laws(4)", x -> x.laws(4), BAD);
            refusedAll("film(4, 0)", x -> x.film(4, 0), BAD);
            refusedAll("film(0, 61)", x -> x.film(0, 61), BAD);
            refusedAll("drawn(100000, 0, 0)", x -> x.drawn(100000, 0, 0), BAD);
            refusedAll("odds(0, 0, 0, 0)", x -> x.odds(0, 0, 0, 0), NO);
            refusedAll("sheet(4, 0, 1)", x -> x.sheet(4, 0, 1), BAD);
            refusedAll("sheet(0, 0, 41)", x -> x.sheet(0, 0, 41), BAD);
            refusedAll("sheet(0, 0, -1)", x -> x.sheet(0, 0, -1), -14);
            refusedAll("cell(4, 0, 0)", x -> x.cell(4, 0, 0), BAD);
            refusedAll("copy(4, 0, 0, 0, 1)", x -> x.copy(4, 0, 0, 0, 1), BAD);
            refusedAll("envoysBy(0, 0, 0, 6)", x -> x.envoysBy(0, 0, 0, 6), BAD);
            refusedAll("taken(0, 7)", x -> x.taken(0, 7), BAD);
        });
        sentence(TERMS, "What is asked changes nothing, but where it is told.", () -> {
            askingAll("questions of the wheel", x -> x.count(0) + x.asks(1, 0, 4, 0) + x.asks(0, 1, 14, 3) + x.winner(5));
            askingAll("questions of envoys", x -> x.told(0, 0) + x.told(1, 6) + x.next() + x.steps());
            askingAll("questions of moves", x -> x.moved(0, 0) + x.broken(-1, 0) + x.broken(0, 2));
            askingAll("questions of wishes", x -> x.may(0) + x.may(1) + x.worth(0, 1, 0) + x.worth(1, 0, 1));
            askingAll("thought", x -> x.best(3, 0) + x.best(2, 1) + x.best(1, 2));
            askingAll("forcing", x -> x.canForce(1, 3, 4) + x.reach(0, 4) + x.reach(1, 3));
            askingAll("loosest, deals", x -> x.loosest(0, 0) + x.loosest(1, 1) + x.deals(1, 0) + x.deals(0, 1));
            askingAll("told games", x -> {
                long sum = 0;
                for (int s = 0; s < 4; s++) {
                    sum += x.judge(s) + x.end(s, 0) + x.end(s, 2) + x.laws(s) + x.kinds(s, 0, 0) + x.kinds(s, 1, 1)
                        + x.starts(s, 0) + x.starts(s, 201);
                }
                return sum;
            });
            askingAll("games by lots", x -> x.drawn(99999, 40, 0) + x.drawn(5, 7, 2) + x.odds(8, 4050, 0, 0));
            askingAll("what lies there", x -> x.taken(0, 0) + x.taken(5, 6) + x.taken(64, 6) + x.taken(4, 3));
        });
        sentence(WHAT_IT_IS, "An object is used for at most 512 calls after it has been made", () -> {
            Used x = plain(2);
            int was = 0;
            while (x.left() > 0) {
                int place = x.left() % 19;
                due("the stone", x.set(1, place), was);
                was = place;
            }
        });
    }

    private static void refusedAll(String call, ToLongFunction<Used> refusal, long want) {
        refused(call, States::bare, refusal, want);
        refused(call, States::alone, refusal, want);
        refused(call, States::rich, refusal, want);
        refused(call, States::full, refusal, want);
    }

    private static void askingAll(String calls, ToLongFunction<Used> questions) {
        asking(calls, States::bare, questions);
        asking(calls, States::alone, questions);
        asking(calls, States::rich, questions);
        asking(calls, States::full, questions);
    }

    private static void sheet() {
        sentence(35, "A SHEET becomes a row of n of a sort, all 0, or missing (sort -1: n does not matter): 1.", () -> {
            for (int sort = 0; sort < 3; sort++) {
                Used x = new Used();
                due("a row", x.sheet(1, sort, 3), 1);
                numbers("all 0", x, 1, sort, 0, 0);
                x.cell(1, 0, 5);
                x.cell(1, 1, 4);
                x.cell(1, 2, 3);
                due("a row anew", x.sheet(1, sort, 3), 1);
                numbers("all 0", x, 1, sort, 0, 0);
                x.cell(1, 0, 5);
                due("a shorter one", x.sheet(1, sort, 2), 1);
                due("outside", x.cell(1, 2, 0), -12);
                numbers("all 0", x, 1, sort, 0);
                x.cell(1, 0, 5);
                due("a longer one", x.sheet(1, sort, 40), 1);
                numbers("all 0", x, 1, sort, 0, 0, 0, 0);
                due("the last one", number(x, 1, sort, 38), 0);
                x.cell(1, 2, 5);
                due("of another sort", x.sheet(1, (sort + 1) % 3, 40), 1);
                numbers("all 0", x, 1, (sort + 1) % 3, 0, 0, 0);
                due("a row of none", x.sheet(1, sort, 0), 1);
                due("no number", x.cell(1, 0, 0), -12);
                for (int n : new int[] {0, 5, 40, 41, -1, MIN, MAX}) {
                    due("missing, n " + n, x.sheet(1, -1, n), 1);
                    due("missing", x.cell(1, 0, 0), -11);
                }
                due("a row again", x.sheet(1, sort, 4), 1);
                numbers("all 0", x, 1, sort, 0, 0, 0);
            }
            Used y = new Used();
            y.sheet(0, 0, 2);
            y.cell(0, 0, 5);
            y.sheet(1, 0, 2);
            y.sheet(3, -1, 0);
            due("no other sheet", number(y, 0, 0, 0), 5);
        });
        sentence(35, "BAD: SHEET, sort, n above 40", () -> {
            for (int s : NO_SHEET) {
                refused("sheet(" + s + ", 0, 1)", States::rich, x -> x.sheet(s, 0, 1), BAD);
                due("missing, too", new Used().sheet(s, -1, 0), BAD);
            }
            for (int sort : new int[] {-2, 3, 4, 256, MIN, MAX}) {
                refused("sheet(0, " + sort + ", 1)", States::rich, x -> x.sheet(0, sort, 1), BAD);
            }
            for (int n : new int[] {41, 42, 80, MAX}) {
                for (int sort = 0; sort < 3; sort++) {
                    int of = sort;
                    refused("sheet(0, " + sort + ", " + n + ")", States::rich, x -> x.sheet(0, of, n), BAD);
                    refused("sheet(3, " + sort + ", " + n + ")", States::rich, x -> x.sheet(3, of, n), BAD);
                }
            }
            due("the last ones", new Used().sheet(3, 2, 40), 1);
            due("the first ones", new Used().sheet(0, 0, 0), 1);
            due("no sheet, a size below 0", new Used().sheet(4, 0, -1), BAD);
            due("no sort, a size below 0", new Used().sheet(0, -2, -1), BAD);
        });
        sentence(35, "-14.", () -> {
            for (int n : new int[] {-1, -2, -41, MIN}) {
                for (int sort = 0; sort < 3; sort++) {
                    int of = sort;
                    refused("sheet(0, " + sort + ", " + n + ")", States::rich, x -> x.sheet(0, of, n), -14);
                    refused("sheet(3, " + sort + ", " + n + ")", States::rich, x -> x.sheet(3, of, n), -14);
                }
            }
        });
    }

    private static void cell() {
        sentence(36, "Number i of a SHEET becomes v (of bytes, shorts its lowest 8, 16 bits): 1.", () -> {
            for (int sort = 0; sort < 3; sort++) {
                Used x = new Used();
                x.sheet(2, sort, 40);
                due("the first", x.cell(2, 0, 5), 1);
                due("the last but one", x.cell(2, 38, 4), 1);
                due("the last", x.cell(2, 39, 3), 1);
                due("the first", number(x, 2, sort, 0), 5);
                due("its neighbour", number(x, 2, sort, 1), 0);
                due("the last but one", number(x, 2, sort, 38), 4);
                Used y = with(1, 9);
                y.sheet(0, sort, 2);
                // a step of 4 at most, or none
                int[] numbers = {4, -4, 252, 260, 256, -256, 65532, 65540, 65536, 255, 128, -128, 127, 129, 32768, -32768, 32767,
                    MIN, MIN + 3, MAX, MAX - 2, 16777216, 131071};
                for (int v : numbers) {
                    due("cell", y.cell(0, 0, v), 1);
                    int held = sort == 0 ? lowest(v, 8) : sort == 1 ? lowest(v, 16) : v;
                    int due = held < -4 || held > 4 ? BAD : held < 0 ? 19 + held : held;
                    due("what is held of " + v + " by sort " + sort, y.end(0, 0), due);
                }
            }
            // a byte of 128 is -128, not 128: one that is no kind in any way; -1 and 255 are one
            Used z = new Used();
            z.sheet(0, 0, 2);
            z.cell(0, 0, 256 + 5);
            z.cell(0, 1, 512 + 9);
            due("a kind and a more of their lowest bits", z.envoysBy(0, 0, 0, 1), 1);
            due("the kind", z.told(0, 0), 5);
            due("the more", z.told(0, 1), 9);
        });
        sentence(36, "BAD: SHEET", () -> {
            for (int s : NO_SHEET) {
                refused("cell(" + s + ", 0, 1)", States::rich, x -> x.cell(s, 0, 1), BAD);
                due("ahead of -12", States.rich().cell(s, 99, 1), BAD);
            }
            Used x = new Used();
            x.sheet(3, 0, 1);
            due("the last one", x.cell(3, 0, 1), 1);
        });
        sentence(36, "-11", () -> {
            for (int s = 0; s < 4; s++) {
                Used x = new Used();
                due("missing", x.cell(s, 0, 1), -11);
                due("ahead of -12", x.cell(s, 40, 1), -11);
                due("ahead of -12", x.cell(s, -1, 1), -11);
                x.sheet(s, 0, 0);
                due("a row of none is there", x.cell(s, 0, 1), -12);
                x.sheet(s, -1, 0);
                due("missing again", x.cell(s, 0, 1), -11);
            }
            refused("cell(3, 0, 1)", States::rich, x -> x.cell(3, 0, 1), -11);
        });
        sentence(36, "-12.", () -> {
            for (int size : new int[] {0, 1, 2, 39, 40}) {
                Used x = new Used();
                x.sheet(0, 2, size);
                due("the last of " + size, size == 0 ? 1 : x.cell(0, size - 1, 7), 1);
                for (int i : new int[] {size, size + 1, 40, 41, -1, -2, MIN, MAX}) {
                    due("cell(0, " + i + ") of " + size, x.cell(0, i, 7), -12);
                }
            }
            // rich: 4 bytes, 4 shorts, 6 ints
            int[] sizes = {4, 4, 6};
            for (int s = 0; s < 3; s++) {
                for (int i : new int[] {sizes[s], -1, 39, 40, MIN, MAX}) {
                    int sheet = s;
                    refused("cell(" + s + ", " + i + ", 1)", States::rich, x -> x.cell(sheet, i, 1), -12);
                }
            }
        });
    }

    /** The number that so many lowest bits are, the highest of them a sign. */
    private static int lowest(int v, int bits) {
        int all = 1 << bits;
        int low = Math.floorMod(v, all);
        return low >= all / 2 ? low - all : low;
    }

    /** A sheet of six, 1 2 3 4 5 0, and one of four, 0, of a sort. */
    private static Used rows(int sort) {
        Used x = new Used();
        row(x, 0, sort, 1, 2, 3, 4, 5, 0);
        row(x, 3, sort, 0, 0, 0, 0);
        return x;
    }

    private static void copies(int i, int j, int n, int... want) {
        for (int sort = 0; sort < 3; sort++) {
            Used x = rows(sort);
            due("copy(0, " + i + ", 3, " + j + ", " + n + ")", x.copy(0, i, 3, j, n), n);
            numbers("there", x, 3, sort, want);
            numbers("here", x, 0, sort, 1, 2, 3, 4, 5);
        }
    }

    private static void copiesToItself(int i, int j, int n, int... want) {
        for (int sort = 0; sort < 3; sort++) {
            Used x = rows(sort);
            due("copy(0, " + i + ", 0, " + j + ", " + n + ")", x.copy(0, i, 0, j, n), n);
            numbers("to itself", x, 0, sort, want);
        }
    }

    private static void copy() {
        sentence(37, "n numbers of a SHEET, from i on, come to another one's (or its own) place j (as they were): n.", () -> {
            copies(0, 0, 3, 1, 2, 3);
            copies(0, 1, 3, 0, 1, 2);
            copies(2, 0, 4, 3, 4, 5);
            copies(4, 2, 1, 0, 0, 5);
            copies(3, 1, 2, 0, 4, 5);
            copies(1, 1, 0, 0, 0, 0);
            copiesToItself(0, 1, 5, 1, 1, 2, 3, 4);
            copiesToItself(0, 2, 4, 1, 2, 1, 2, 3);
            copiesToItself(1, 0, 5, 2, 3, 4, 5, 0);
            copiesToItself(2, 0, 3, 3, 4, 5, 4, 5);
            copiesToItself(0, 0, 6, 1, 2, 3, 4, 5);
            copiesToItself(0, 3, 2, 1, 2, 3, 1, 2);
            copiesToItself(3, 3, 0, 1, 2, 3, 4, 5);
            Used x = new Used();
            row(x, 1, 2, new int[40]);
            x.cell(1, 39, 5);
            x.sheet(2, 2, 40);
            due("forty", x.copy(1, 0, 2, 0, 40), 40);
            due("the last, brought to the first", x.copy(2, 39, 2, 0, 1), 1);
            due("the last", number(x, 2, 2, 0), 5);
        });
        sentence(37, "BAD: SHEETS", () -> {
            for (int s : NO_SHEET) {
                refused("copy(" + s + ", 0, 0, 0, 1)", States::rich, x -> x.copy(s, 0, 0, 0, 1), BAD);
                refused("copy(0, 0, " + s + ", 0, 1)", States::rich, x -> x.copy(0, 0, s, 0, 1), BAD);
                due("ahead of -11", new Used().copy(s, 0, 0, 0, 1), BAD);
                due("ahead of -11", new Used().copy(0, 0, s, 0, 1), BAD);
            }
        });
        sentence(37, "-11", () -> {
            refused("copy(3, 0, 0, 0, 1), from a missing one", States::rich, x -> x.copy(3, 0, 0, 0, 1), -11);
            refused("copy(0, 0, 3, 0, 1), to a missing one", States::rich, x -> x.copy(0, 0, 3, 0, 1), -11);
            refused("copy(3, 0, 3, 0, 1), of one and the same", States::rich, x -> x.copy(3, 0, 3, 0, 1), -11);
            due("of none, ahead of -12", new Used().copy(0, 5, 1, 5, -1), -11);
            due("no numbers of a missing one", new Used().copy(0, 0, 1, 0, 0), -11);
        });
        sentence(37, "-13: unlike sorts", () -> {
            for (int a = 0; a < 3; a++) {
                for (int b = 0; b < 3; b++) {
                    Used x = new Used();
                    x.sheet(0, a, 4);
                    x.sheet(1, b, 4);
                    due("of " + a + " to " + b, x.copy(0, 0, 1, 0, 2), a == b ? 2 : -13);
                    due("of " + a + " to " + b + ", outside", x.copy(0, 3, 1, 3, 2), a == b ? -12 : -13);
                    due("of " + a + " to " + b + ", below 0", x.copy(0, 0, 1, 0, -1), a == b ? -12 : -13);
                }
            }
            refused("copy(0, 0, 1, 0, 2)", States::rich, x -> x.copy(0, 0, 1, 0, 2), -13);
            refused("copy(2, 0, 1, 0, 2)", States::rich, x -> x.copy(2, 0, 1, 0, 2), -13);
        });
        sentence(37, "-12 (n below 0, too).", () -> {
            // six and four numbers
            int[][] outside = {{0, 0, 5}, {3, 0, 4}, {6, 0, 1}, {5, 0, 2}, {0, 4, 1}, {0, 3, 2}, {0, 1, 4}, {-1, 0, 1}, {0, -1, 1},
                {-1, 1, 2}, {1, -1, 2}, {0, 0, -1}, {1, 1, -1}, {0, 0, MIN}, {MAX, 0, 1}, {0, MAX, 1}, {0, 0, MAX}, {1, 0, MAX},
                {MAX, MAX, MAX}, {MIN, 0, 1}, {0, MIN, 1}, {2, 2, MIN}, {40, 0, 1}, {0, 39, 1}};
            for (int[] o : outside) {
                refused("copy(0, " + o[0] + ", 3, " + o[1] + ", " + o[2] + ")", () -> rows(0), x -> x.copy(0, o[0], 3, o[1], o[2]),
                    -12);
            }
            refused("copy(0, 0, 0, 1, 6), to its own", () -> rows(2), x -> x.copy(0, 0, 0, 1, 6), -12);
            refused("copy(0, 1, 0, 0, 6), of its own", () -> rows(1), x -> x.copy(0, 1, 0, 0, 6), -12);
            due("the last that is taken", rows(0).copy(0, 2, 3, 0, 4), 4);
            due("the last that is taken", rows(0).copy(0, 5, 3, 3, 1), 1);
            due("the last that is taken", rows(0).copy(3, 0, 0, 2, 4), 4);
        });
    }

    private static void envoysBy() {
        sentence(38, "ENVOYS by a SHEET of a sort: from a place on, two by two (as of envoy()), n of them (0 .. 5): how many came (others"
            + " are left out).", () -> {
                for (int sort = 0; sort < 3; sort++) {
                    Used x = new Used();
                    row(x, 0, sort, 1, 9, 6, 0, 2, 8, 0, 10, 5, 7, 4, 6, 3, 5, 0, 4, 1, 3);
                    due("none", x.envoysBy(0, sort, 0, 0), 0);
                    due("no envoys", x.count(0), 0);
                    due("one", x.envoysBy(0, sort, 0, 1), 1);
                    comes(x, 0, 1, 9);
                    due("six is no kind", x.envoysBy(0, sort, 2, 1), 0);
                    due("ten is no more", x.envoysBy(0, sort, 6, 1), 0);
                    due("two of four", x.envoysBy(0, sort, 2, 4), 2);
                    comes(x, 1, 2, 8);
                    comes(x, 2, 5, 7);
                    due("from a place that is no pair's", x.envoysBy(0, sort, 15, 1), 1);
                    comes(x, 3, 4, 1);
                    due("one has room of five", x.envoysBy(0, sort, 8, 5), 1);
                    comes(x, 4, 5, 7);
                    due("none has room", x.envoysBy(0, sort, 8, 5), 0);
                    due("wishes as they come", x.told(3, 2), 4);
                    due("the last one's", x.told(4, 2), 0);
                    due("five", x.count(0), 5);
                    Used y = new Used();
                    row(y, 3, sort, 5, 0, 4, 1, 3, 2, 2, 3, 1, 4);
                    due("five", y.envoysBy(3, sort, 0, 5), 5);
                    for (int e = 0; e < 5; e++) {
                        comes(y, e, 5 - e, e);
                    }
                    Used z = plain(1);
                    row(z, 0, sort, 1, 1);
                    z.move(1, 1);
                    due("there are moves: left out", z.envoysBy(0, sort, 0, 1), 0);
                    due("one", z.count(0), 1);
                }
            });
        sentence(38, "BAD: SHEET, sort, n", () -> {
            for (int s : NO_SHEET) {
                refused("envoysBy(" + s + ", 0, 0, 1)", States::alone, x -> x.envoysBy(s, 0, 0, 1), BAD);
            }
            for (int sort : new int[] {-1, 3, -2, 4, MIN, MAX}) {
                refused("envoysBy(1, " + sort + ", 0, 1)", States::alone, x -> x.envoysBy(1, sort, 0, 1), BAD);
                due("ahead of -11", new Used().envoysBy(0, sort, 0, 1), BAD);
            }
            for (int n : new int[] {-1, 6, 7, MIN, MAX}) {
                refused("envoysBy(1, 1, 0, " + n + ")", States::alone, x -> x.envoysBy(1, 1, 0, n), BAD);
                due("ahead of -11", new Used().envoysBy(0, 0, 0, n), BAD);
                due("ahead of -13", States.alone().envoysBy(1, 0, 0, n), BAD);
            }
        });
        sentence(38, "-11", () -> {
            for (int s = 0; s < 4; s++) {
                int sheet = s;
                refused("envoysBy(" + s + ", 0, 0, 1)", States::bare, x -> x.envoysBy(sheet, 0, 0, 1), -11);
            }
            refused("envoysBy(0, 2, 99, 1), ahead of -12", States::alone, x -> x.envoysBy(0, 2, 99, 1), -11);
            due("none by a missing one", new Used().envoysBy(0, 0, 0, 0), -11);
        });
        sentence(38, "-13", () -> {
            for (int a = 0; a < 3; a++) {
                for (int b = 0; b < 3; b++) {
                    Used x = new Used();
                    row(x, 0, a, 1, 2);
                    due("of " + a + " by " + b, x.envoysBy(0, b, 0, 1), a == b ? 1 : -13);
                    due("of " + a + " by " + b + ", outside", x.envoysBy(0, b, 2, 1), a == b ? -12 : -13);
                    due("who came", x.count(0), a == b ? 1 : 0);
                }
            }
            refused("envoysBy(1, 0, 0, 1)", States::alone, x -> x.envoysBy(1, 0, 0, 1), -13);
            refused("envoysBy(1, 2, 0, 1)", States::alone, x -> x.envoysBy(1, 2, 0, 1), -13);
        });
        sentence(38, "-12: what stood ahead came.", () -> {
            Used x = new Used();
            row(x, 0, 0, 1, 2, 3, 4, 5);
            due("two, and a place outside", x.envoysBy(0, 0, 0, 3), -12);
            comes(x, 0, 1, 2);
            comes(x, 1, 3, 4);
            due("two", x.count(0), 2);
            due("a kind inside, its more outside", x.envoysBy(0, 0, 4, 1), -12);
            due("two", x.count(0), 2);
            due("one, and a place outside", x.envoysBy(0, 0, 3, 2), -12);
            comes(x, 2, 4, 5);
            due("three", x.count(0), 3);
            due("one that is left out, and a place outside", x.envoysBy(0, 0, 3, 5), -12);
            due("four", x.count(0), 4);
            for (int at : new int[] {-1, -2, 4, 5, 6, 40, MIN, MIN + 1, MAX, MAX - 1}) {
                due("from " + at, x.envoysBy(0, 0, at, 1), -12);
                due("from " + at, x.envoysBy(0, 0, at, 5), -12);
            }
            due("four", x.count(0), 4);
            due("from the last place that is taken", x.envoysBy(0, 0, 3, 1), 1);
            Used full = new Used();
            full.sheet(0, 2, 40);
            due("forty: the last two", full.envoysBy(0, 2, 38, 1), 1);
            due("forty: behind them", full.envoysBy(0, 2, 38, 2), -12);
            due("who came ahead of it", full.count(0), 2);
            due("forty: the last one alone", full.envoysBy(0, 2, 39, 1), -12);
            Used none = new Used();
            none.sheet(0, 1, 0);
            due("a row of none", none.envoysBy(0, 1, 0, 1), -12);
            none.sheet(0, 1, 1);
            due("a row of one", none.envoysBy(0, 1, 0, 1), -12);
            due("who came", none.count(0), 0);
        });
    }

    private static void comes(Used x, int e, int kind, int more) {
        due("the kind of " + e, x.told(e, 0), kind);
        due("the more of " + e, x.told(e, 1), more);
    }

    private static void taken() {
        sentence(39, "What lies at place i: 0 .. 4 ENVOYS, 5 .. 64 MOVES 0 .. 59, taken for 0 .. 5 an ENVOY of that KIND (also of one that is"
            + " one): the number; 6 a MOVE: its step.", () -> {
                int[][] is = {{0}, {0, 1}, {0, 2}, {0, 1, 3}, {0, 2, 4}, {0, 5}};
                for (int kind = 0; kind < 6; kind++) {
                    for (int e = 0; e < 5; e++) {
                        int[] five = new int[10];
                        five[2 * e] = kind;
                        Used x = with(five);
                        for (int as = 0; as < 7; as++) {
                            int want = -13;
                            for (int one : is[kind]) {
                                want = one == as ? e : want;
                            }
                            due("taken(" + e + ", " + as + ") of kind " + kind, x.taken(e, as), want);
                        }
                    }
                }
                Used x = plain(1);
                for (int k = 0; k < 60; k++) {
                    x.move(k % 9 - 4, 3);
                    due("the step of move " + k, x.taken(5 + k, 6), k % 9 - 4);
                }
                due("the first move", x.taken(5, 6), -4);
                due("the last move", x.taken(64, 6), 59 % 9 - 4);
            });
        sentence(39, "BAD: kind", () -> {
            for (int kind : new int[] {-1, 7, 8, 256, MIN, MAX}) {
                due("taken(0, " + kind + ")", plain(1).taken(0, kind), BAD);
                due("taken(65, " + kind + "), ahead of -12", plain(1).taken(65, kind), BAD);
                due("taken(4, " + kind + "), ahead of -11", plain(1).taken(4, kind), BAD);
                due("taken(5, " + kind + ") of a move", States.rich().taken(5, kind), BAD);
            }
        });
        sentence(39, "-12: i", () -> {
            for (int kind = 0; kind < 7; kind++) {
                for (int i : new int[] {-1, 65, -2, 66, MIN, MAX}) {
                    due("taken(" + i + ", " + kind + ")", new Used().taken(i, kind), -12);
                    due("taken(" + i + ", " + kind + ") of a full one", States.full().taken(i, kind), -12);
                }
                due("the first place", new Used().taken(0, kind), -11);
                due("the last place", new Used().taken(64, kind), -11);
            }
        });
        sentence(39, "-11: nothing lies there", () -> {
            for (int kind = 0; kind < 7; kind++) {
                for (int m = 0; m < 5; m++) {
                    Used x = plain(m);
                    due("behind the last envoy", x.taken(m, kind), -11);
                    due("the last envoy's place", x.taken(4, kind), -11);
                    due("no move", x.taken(5, kind), -11);
                    due("no move", x.taken(64, kind), -11);
                }
            }
            Used x = plain(5);
            for (int k = 0; k < 60; k++) {
                due("behind the last move", x.taken(5 + k, 6), -11);
                due("taken for an envoy, too", x.taken(5 + k, 0), -11);
                x.move(1, 3);
            }
            Used y = plain(1);
            y.image();
            y.envoy(0, 0);
            y.move(1, 3);
            y.back();
            due("an envoy who is none", y.taken(1, 0), -11);
            due("a move that is none", y.taken(5, 6), -11);
        });
        sentence(39, "-13.", () -> {
            Used x = plain(5);
            x.move(2, 3);
            for (int kind = 0; kind < 6; kind++) {
                due("a move for an envoy of kind " + kind, x.taken(5, kind), -13);
            }
            for (int e = 0; e < 5; e++) {
                due("an envoy for a move", x.taken(e, 6), -13);
                for (int kind = 1; kind < 6; kind++) {
                    due("an envoy of kind 0 for one of " + kind, x.taken(e, kind), -13);
                }
            }
        });
    }
}
