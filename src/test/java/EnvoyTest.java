/** Promises 8 to 11: envoys. */
public final class EnvoyTest {
    public static void main(String[] args) {
        envoy();
        hope();
        told();
        winner();
        Check.finish();
    }

    private static void envoy() {
        Ambassadors x = new Ambassadors();
        Check.due("kind -1", x.envoy(-1, 0), Ambassadors.BAD);
        Check.due("kind 6", x.envoy(6, 0), Ambassadors.BAD);
        Check.due("more -1", x.envoy(0, -1), Ambassadors.BAD);
        Check.due("more 10", x.envoy(0, 10), Ambassadors.BAD);
        Check.due("the first", x.envoy(5, 9), 0);
        Check.due("it wishes itself", x.told(0, 2), 0);
        Check.due("the second", x.envoy(0, 0), 1);
        Check.due("the first wishes the second", x.told(0, 2), 1);
        Check.due("the second wishes the first", x.told(1, 2), 0);
        Check.due("the third", x.envoy(0, 0), 2);
        Check.due("the second wishes the third", x.told(1, 2), 2);
        Check.due("the third's wish", x.hope(2, 1), 0);
        Check.due("the fourth", x.envoy(0, 0), 3);
        Check.due("the third's wish stays", x.told(2, 2), 1);
        Check.due("the fifth", x.envoy(0, 0), 4);
        Check.due("the fourth wishes the fifth", x.told(3, 2), 4);
        Check.due("the first's wish stays", x.told(0, 2), 1);
        Check.due("no sixth", x.envoy(0, 0), Ambassadors.FULL);
        Check.due("a bad sixth", x.envoy(9, 0), Ambassadors.BAD);
        x.move(1, 1);
        Check.due("STATE ahead of FULL", x.envoy(0, 0), Ambassadors.STATE);
        Check.due("BAD ahead of STATE", x.envoy(0, -3), Ambassadors.BAD);
    }

    private static void hope() {
        Ambassadors x = Check.with(0, 0);
        Check.due("no such envoy", x.hope(1, 0), -5);
        Check.due("envoy -1", x.hope(-1, 0), -5);
        Check.due("alone, another", x.hope(0, 1), -7);
        Check.due("alone, oneself", x.hope(0, 0), 0);
        x.envoy(0, 0);
        x.envoy(0, 0);
        Check.due("oneself", x.hope(1, 1), -7);
        Check.due("no such wish", x.hope(1, 3), -7);
        Check.due("wish -1", x.hope(1, -1), -7);
        Check.due("another", x.hope(1, 0), 2);
        Check.due("the same again", x.hope(1, 0), 0);
        x.move(1, 1);
        Check.due("with moves", x.hope(1, 2), 0);
        Check.due("the wish", x.told(1, 2), 2);
    }

    private static void told() {
        int[][] far = {{0, 9, 2}, {1, 8, 3}, {1, 9, 4}, {2, 9, 2}, {3, 8, 3}, {3, 9, 4}, {4, 9, 1}, {5, 9, 1}};
        for (int[] f : far) {
            Ambassadors x = Check.with(f[0], f[1]);
            Check.due("kind", x.told(0, 0), f[0]);
            Check.due("more", x.told(0, 1), f[1]);
            Check.due("how far a kind " + f[0] + " goes with " + f[1], x.told(0, 4), f[2]);
        }
        Ambassadors x = Check.with(0, 0, 1, 3, 2, 4);
        x.set(0, 16);
        Check.due("no such envoy", x.told(3, 0), -5);
        Check.due("envoy -1", x.told(-1, 9), -5);
        Check.due("what 7", x.told(0, 7), -7);
        Check.due("what -1", x.told(0, -1), -7);
        int[] homes = {0, 5, 10};
        for (int e = 0; e < 3; e++) {
            Check.due("home of " + e, x.told(e, 6), homes[e]);
            Check.due("no last reason", x.told(e, 3), -1);
            Check.due("no card shown", x.told(e, 5), 0);
        }
        x.move(1, 2);
        Check.due("last reason", x.told(0, 3), 2);
        Check.due("none yet", x.told(1, 3), -1);
        x.call(1, 0);
        Check.due("the caller's card", x.told(1, 5), 1);
    }

    private static void winner() {
        Ambassadors x = new Ambassadors();
        Check.due("no envoys", x.winner(18), Ambassadors.NONE);
        Check.due("no place, no envoys", x.winner(19), Ambassadors.BAD);
        x = Check.with(0, 0, 0, 0, 0, 0);
        // HOMES 0, 6, 12 of 19
        int[] due = {0, 0, 0, 0, 1, 1, 1, 1, 1, 1, 2, 2, 2, 2, 2, 2, 0, 0, 0};
        for (int p = 0; p < 19; p++) {
            Check.due("winner(" + p + ")", x.winner(p), due[p]);
        }
        Check.due("winner(-1)", x.winner(-1), Ambassadors.BAD);
        x.set(0, 3);
        Check.due("winner(3) of 3 places", x.winner(3), Ambassadors.BAD);
        Check.due("winner(2) of 3 places", x.winner(2), 2);
        x = Check.with(0, 0, 0, 0, 0, 0, 0, 0, 0, 0);
        x.set(0, 3);
        // HOMES 0, 0, 1, 1, 2: of like ones the first
        Check.due("winner(0) of five", x.winner(0), 0);
        Check.due("winner(1) of five", x.winner(1), 2);
        Check.due("winner(2) of five", x.winner(2), 4);
    }
}
