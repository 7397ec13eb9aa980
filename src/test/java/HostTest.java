/** Promises 35 to 39: the host. */
public final class HostTest {
    public static void main(String[] args) {
        sheet();
        cell();
        copy();
        envoysBy();
        taken();
        Check.finish();
    }

    private static void sheet() {
        Ambassadors x = Check.with(1, 9);
        Check.due("sheet 4", x.sheet(4, 0, 1), Ambassadors.BAD);
        Check.due("sheet -1", x.sheet(-1, 0, 1), Ambassadors.BAD);
        Check.due("sort 3", x.sheet(0, 3, 1), Ambassadors.BAD);
        Check.due("sort -2", x.sheet(0, -2, 1), Ambassadors.BAD);
        Check.due("n 41", x.sheet(0, 0, 41), Ambassadors.BAD);
        Check.due("n -1", x.sheet(0, 0, -1), -14);
        Check.due("sort 3 ahead of n -1", x.sheet(0, 3, -1), Ambassadors.BAD);
        Check.due("nothing came", x.judge(0), -11);
        Check.due("n 40", x.sheet(3, 2, 40), 1);
        Check.due("cell 39", x.cell(3, 39, 1), 1);
        Check.due("n 0", x.sheet(2, 1, 0), 1);
        Check.due("no cell", x.cell(2, 0, 1), -12);
        Check.due("refused, so it stays", x.sheet(3, 2, 41), Ambassadors.BAD);
        Check.due("cell 39", x.cell(3, 39, 1), 1);
        Check.row(x, 0, 2, 4, 3);
        Check.due("a row", x.end(0, 0), 4);
        x.sheet(0, 2, 2);
        Check.due("all 0 anew", x.end(0, 0), 0);
        Check.due("missing, n does not matter", x.sheet(0, -1, 41), 1);
        Check.due("missing", x.judge(0), -11);
        Check.due("missing again", x.sheet(0, -1, Integer.MIN_VALUE), 1);
        x.sheet(0, 0, 2);
        Check.due("all 0 anew", x.end(0, 0), 0);
    }

    private static void cell() {
        Ambassadors x = Check.with(1, 9);
        Check.due("sheet 4", x.cell(4, 0, 0), Ambassadors.BAD);
        Check.due("sheet -1", x.cell(-1, 0, 0), Ambassadors.BAD);
        Check.due("missing", x.cell(0, 99, 0), -11);
        x.sheet(0, 0, 2);
        Check.due("cell 2", x.cell(0, 2, 0), -12);
        Check.due("cell -1", x.cell(0, -1, 0), -12);
        int[][] bytes = {{260, 4}, {252, 15}, {-4, 15}, {65536 + 3, 3}, {Integer.MIN_VALUE + 1, 1}};
        for (int[] b : bytes) {
            Check.due("cell", x.cell(0, 0, b[0]), 1);
            Check.due("a byte of " + b[0], x.end(0, 0), b[1]);
        }
        x.cell(0, 0, 128);
        Check.due("a byte of 128 is no step", x.judge(0), Ambassadors.BAD);
        x.sheet(0, 1, 2);
        int[][] shorts = {{65536 + 2, 2}, {65535, 18}, {-65536 - 1, 18}};
        for (int[] s : shorts) {
            x.cell(0, 0, s[0]);
            Check.due("a short of " + s[0], x.end(0, 0), s[1]);
        }
        x.cell(0, 0, 260);
        Check.due("a short of 260 is no step", x.judge(0), Ambassadors.BAD);
        x.sheet(0, 2, 2);
        x.cell(0, 0, 65536);
        Check.due("an int is whole", x.judge(0), Ambassadors.BAD);
    }

    private static void copy() {
        Ambassadors x = Check.with(3, 9);
        Check.row(x, 0, 2, 1, 0, 2, 0, 3, 0);
        Check.row(x, 1, 2, 0, 0);
        Check.row(x, 2, 1, 0, 0);
        Check.due("sheet 4", x.copy(4, 0, 0, 0, 1), Ambassadors.BAD);
        Check.due("to sheet 4", x.copy(0, 0, 4, 0, 1), Ambassadors.BAD);
        Check.due("sheet -1", x.copy(-1, 0, 3, 0, 1), Ambassadors.BAD);
        Check.due("from a missing one", x.copy(3, 0, 0, 0, 1), -11);
        Check.due("to a missing one", x.copy(0, 0, 3, 0, 1), -11);
        Check.due("unlike sorts", x.copy(0, 99, 2, 0, 1), -13);
        Check.due("from 5, two", x.copy(0, 5, 1, 0, 2), -12);
        Check.due("to 1, two", x.copy(0, 0, 1, 1, 2), -12);
        Check.due("from -1", x.copy(0, -1, 1, 0, 1), -12);
        Check.due("to -1", x.copy(0, 0, 1, -1, 1), -12);
        Check.due("n -1", x.copy(0, 0, 1, 0, -1), -12);
        Check.due("from far", x.copy(0, Integer.MAX_VALUE, 1, 0, 1), -12);
        Check.due("n far", x.copy(0, 1, 1, 0, Integer.MAX_VALUE), -12);
        Check.due("none from the end", x.copy(0, 6, 1, 2, 0), 0);
        Check.due("none from beyond", x.copy(0, 7, 1, 2, 0), -12);
        Check.due("the third step", x.copy(0, 4, 1, 0, 2), 2);
        Check.due("it is there", x.end(1, 0), 3);
        // to its own place, as they were: 1 0 1 0 2 0
        Check.due("onto itself", x.copy(0, 0, 0, 2, 4), 4);
        Check.due("1 and 1, and 2 to the left", x.end(0, 0), 0);
        Check.due("onto itself, down", x.copy(0, 2, 0, 0, 4), 4);
        // 1 0 2 0 2 0
        Check.due("1 and 2, and 2 to the left", x.end(0, 0), 1);
        Check.due("the source stays", x.end(1, 0), 3);
    }

    private static void envoysBy() {
        Ambassadors x = new Ambassadors();
        Check.due("sheet 4", x.envoysBy(4, 0, 0, 1), Ambassadors.BAD);
        Check.due("sheet -1", x.envoysBy(-1, 0, 0, 1), Ambassadors.BAD);
        Check.due("sort -1", x.envoysBy(0, -1, 0, 1), Ambassadors.BAD);
        Check.due("sort 3", x.envoysBy(0, 3, 0, 1), Ambassadors.BAD);
        Check.due("n 6", x.envoysBy(0, 0, 0, 6), Ambassadors.BAD);
        Check.due("n -1", x.envoysBy(0, 0, 0, -1), Ambassadors.BAD);
        Check.due("missing", x.envoysBy(0, 0, 0, 1), -11);
        Check.row(x, 0, 1, 9, 1, 2, 6, 3, 3, 10, 5, 8);
        Check.due("of another sort", x.envoysBy(0, 2, 0, 1), -13);
        Check.due("none", x.envoysBy(0, 1, 0, 0), 0);
        Check.due("from -1", x.envoysBy(0, 1, -1, 1), -12);
        Check.due("from far", x.envoysBy(0, 1, Integer.MAX_VALUE, 1), -12);
        Check.due("from far below", x.envoysBy(0, 1, Integer.MIN_VALUE, 5), -12);
        Check.due("none came", x.count(0), 0);
        // 1 2 | 6 3 (no kind) | 3 10 (no more) | 5 8
        Check.due("two of four", x.envoysBy(0, 1, 1, 4), 2);
        Check.due("the first", x.told(0, 0) * 10 + x.told(0, 1), 12);
        Check.due("the second", x.told(1, 0) * 10 + x.told(1, 1), 58);
        Check.due("8 and a place outside", x.envoysBy(0, 1, 7, 2), -12);
        Check.due("5 8 came ahead of it", x.count(0), 3);
        Check.due("a kind inside, more outside", x.envoysBy(0, 1, 8, 1), -12);
        Check.due("none came", x.count(0), 3);
        Check.row(x, 1, 0, 0, 0, 0, 0, 0, 0, 0, 0, 0, 0);
        Check.due("two have room", x.envoysBy(1, 0, 0, 5), 2);
        Check.due("five", x.count(0), 5);
        Check.due("wishes as of envoy", x.told(3, 2), 4);
        x.move(1, 1);
        Check.due("left out, there are moves", x.envoysBy(1, 0, 0, 5), 0);
    }

    private static void taken() {
        Ambassadors x = Check.with(0, 0, 1, 0, 2, 0, 3, 0, 4, 0);
        int[][] above = {{0}, {0, 1}, {0, 2}, {0, 1, 3}, {0, 2, 4}};
        for (int e = 0; e < 5; e++) {
            for (int kind = 0; kind <= 6; kind++) {
                int want = -13;
                for (int a : above[e]) {
                    want = a == kind ? e : want;
                }
                Check.due("taken(" + e + ", " + kind + ")", x.taken(e, kind), want);
            }
        }
        Ambassadors y = Check.with(5, 0);
        for (int kind = 0; kind <= 6; kind++) {
            Check.due("a shy one", y.taken(0, kind), kind == 0 || kind == 5 ? 0 : -13);
        }
        Check.due("kind 7", x.taken(0, 7), Ambassadors.BAD);
        Check.due("kind -1", x.taken(99, -1), Ambassadors.BAD);
        Check.due("place -1", x.taken(-1, 0), -12);
        Check.due("place 65", x.taken(65, 6), -12);
        Check.due("place 64", x.taken(64, 6), -11);
        Check.due("no move", x.taken(5, 0), -11);
        Check.due("no envoy", y.taken(1, 6), -11);
        x.move(-3, 2);
        Check.due("a move's step", x.taken(5, 6), -3);
        Check.due("a move is no envoy", x.taken(5, 0), -13);
        Check.due("no move", x.taken(6, 6), -11);
        for (int k = 1; k < 60; k++) {
            x.move(1, 1);
        }
        Check.due("the last move", x.taken(64, 6), 1);
    }
}
