/** Promises 12 to 16: moves. */
public final class MoveTest {
    public static void main(String[] args) {
        next();
        steps();
        move();
        moved();
        broken();
        Check.finish();
    }

    private static void next() {
        Ambassadors x = new Ambassadors();
        Check.due("nobody's turn", x.next(), -1);
        x = Check.with(0, 0, 0, 0, 0, 0);
        for (int k = 0; k < 7; k++) {
            Check.due("turn " + k, x.next(), k % 3);
            x.move(1, 0);
        }
        Check.due("the turn", x.count(3), 7);
    }

    /** Steps that a kind may go with a last reason, by a law that allows step = 1 alone. */
    private static void bound(int kind, int more, int reason, boolean isBound) {
        Ambassadors x = Check.with(kind, more);
        Check.law(x, "allows step = 1 ; worth 0 ; price 0 ;");
        int free = x.steps();
        x.move(1, reason);
        Check.due("kind " + kind + ", more " + more + ", reason " + reason, x.steps(), isBound ? 32 : free);
    }

    private static void steps() {
        Check.due("no envoys", new Ambassadors().steps(), 0);
        int[][] free = {{0, 0, 124}, {1, 0, 254}, {1, 9, 511}, {2, 0, 124}, {3, 0, 238}, {3, 9, 495}, {4, 0, 56}, {5, 9, 56}};
        for (int[] f : free) {
            Check.due("steps of kind " + f[0], Check.with(f[0], f[1]).steps(), f[2]);
        }
        for (int reason = 0; reason < 4; reason++) {
            bound(0, 1, reason, true);
            bound(1, 1, reason, true);
            bound(3, 1, reason, true);
            bound(5, 1, reason, true);
            for (int more = 0; more < 10; more++) {
                bound(2, more, reason, reason != more % 4);
                bound(4, more, reason, more < 5 && reason > 1 && reason != more % 4);
            }
        }
        Ambassadors x = Check.with(0, 0, 0, 0);
        x.move(1, 0);
        Check.due("another one's reason binds not", x.steps(), 124);
        x.move(1, 3);
        Check.due("reason 0 forbids to stay", x.steps(), 108);
        x.move(1, 3);
        Check.due("reason 3 allows all", x.steps(), 124);
        // a law may hang on where the stone is, on the turn, on the wish
        x = Check.with(0, 0);
        Check.law(x, "allows stone + step = 3 and turn = 1 and reason = 2 and far = 2 ; worth 0 ; price 0 ;");
        x.move(2, 2);
        Check.due("steps by all names", x.steps(), 32);
        x.set(1, 1);
        Check.due("steps from 1, far is 1", x.steps(), 0);
    }

    private static void move() {
        Ambassadors x = new Ambassadors();
        Check.due("no envoys", x.move(0, 0), Ambassadors.STATE);
        Check.due("step 5, no envoys", x.move(5, 0), -7);
        Check.due("step -5", x.move(-5, 0), -7);
        Check.due("reason 4", x.move(0, 4), -7);
        Check.due("reason -1", x.move(0, -1), -7);
        Check.due("nothing moved", x.count(3) + x.count(4), 0);
        x = Check.with(0, 0);
        x.set(0, 3);
        int[][] go = {{-1, 2}, {4, 0}, {1, 2}, {4, 0}, {-4, 2}, {-4, 0}, {3, 0}, {2, 2}, {2, 0}};
        for (int[] g : go) {
            Check.due("to go " + g[0] + " in turn " + x.count(3), x.move(g[0], 1), g[1]);
        }
        x = Check.with(0, 0);
        for (int k = 0; k < 60; k++) {
            x.move(4, 3);
        }
        Check.due("moves", x.count(4), 60);
        Check.due("no room", x.move(1, 1), Ambassadors.FULL);
        Check.due("wrong ahead of FULL", x.move(9, 1), -7);
        Check.due("nothing changed", x.told(0, 3), 3);
    }

    private static void moved() {
        Ambassadors x = Check.with(0, 0, 5, 0);
        x.set(1, 17);
        x.move(2, 1);
        x.set(1, 5);
        x.move(-2, 3);
        x.move(0, 2);
        int[][] due = {{0, 2, 1, 17, 0}, {1, -2, 3, 5, 1}, {0, 0, 2, 3, 1}};
        for (int k = 0; k < 3; k++) {
            for (int what = 0; what < 5; what++) {
                Check.due("moved(" + k + ", " + what + ")", x.moved(k, what), due[k][what]);
            }
        }
        Check.due("no such move", x.moved(3, 0), -105);
        Check.due("move -1", x.moved(-1, 0), -105);
        Check.due("no such move ahead of what", x.moved(60, 9), -105);
        Check.due("what 5", x.moved(0, 5), -107);
        Check.due("what -1", x.moved(0, -1), -107);
        Check.due("of none", new Ambassadors().moved(0, 0), -105);
    }

    private static void broken() {
        Ambassadors x = Check.with(0, 0, 0, 0);
        x.move(3, 0);
        x.move(1, 0);
        x.move(1, 0);
        x.move(4, 0);
        x.move(0, 0);
        Check.due("of any", x.broken(-1, 0), 0);
        Check.due("of any from 1", x.broken(-1, 1), 3);
        Check.due("of any from 4", x.broken(-1, 4), 4);
        Check.due("of any from 5", x.broken(-1, 5), -1);
        Check.due("of 0 from 1", x.broken(0, 1), 4);
        Check.due("of 1", x.broken(1, 0), 3);
        Check.due("of 1 from 4", x.broken(1, 4), -1);
        Check.due("from 60", x.broken(1, 60), -1);
        Check.due("from 61", x.broken(1, 61), -7);
        Check.due("from -1", x.broken(-1, -1), -7);
        Check.due("envoy 2", x.broken(2, 0), -5);
        Check.due("envoy -2", x.broken(-2, 99), -5);
        Check.due("of any of none", new Ambassadors().broken(-1, 0), -1);
        Check.due("of 0 of none", new Ambassadors().broken(0, 0), -5);
        // whether it breaks was decided as it was made
        Check.law(x, "allows 1 ; worth 0 ; price 0 ;");
        Check.due("by another law", x.broken(0, 1), 4);
    }
}
