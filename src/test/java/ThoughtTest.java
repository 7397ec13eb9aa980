/** Promises 20 to 24: from the last turn back. */
public final class ThoughtTest {
    public static void main(String[] args) {
        best();
        force();
        loosest();
        deals();
        Check.finish();
    }

    private static void bests(String how, Ambassadors x, int turns, int end, int step, int reason) {
        int turn = x.count(3);
        int stone = x.count(2);
        Check.due(how + ": where it ends", x.best(turns, 0), end);
        Check.due(how + ": the step", x.best(turns, 1), step);
        Check.due(how + ": the reason", x.best(turns, 2), reason);
        Check.due(how + ": nothing changed", x.count(3) * 100 + x.count(2), turn * 100 + stone);
    }

    private static void best() {
        Ambassadors x = new Ambassadors();
        Check.due("no envoys", x.best(1, 0), -103);
        Check.due("0 turns", x.best(0, 0), -107);
        Check.due("4 turns", x.best(4, 0), -107);
        Check.due("what 3", x.best(1, 3), -107);
        Check.due("what -1", x.best(1, -1), -107);
        x = Check.with(0, 0, 0, 0);
        // HOMES 0 and 9; 0 wishes 1, 1 wishes 0
        bests("towards 9", x, 1, 2, 2, 0);
        // whatever 0 does, 1 takes it back
        bests("taken back", x, 2, 0, -2, 0);
        bests("three turns", x, 3, 2, -2, 0);
        x.set(1, 9);
        bests("it may stay", x, 1, 9, 0, 0);
        x.move(0, 0);
        x.move(0, 3);
        // turn 2 is to the left; 0 is bound by reason 0: it may not stay
        bests("it may not stay", x, 1, 10, -1, 0);
        // of like ones the first
        x = Check.with(0, 0, 0, 0);
        Check.law(x, "allows 1 ; worth 5 ; price 0 ;");
        bests("all are worth as much", x, 1, 17, -2, 0);
        bests("all are worth as much", x, 2, 15, -2, 0);
        bests("all are worth as much, the third to the left", x, 3, 17, -2, 0);
        // beyond the bound all are worth the bound
        Check.law(x, "allows 1 ; worth stone * 50 + 90 ; price 0 ;");
        bests("worth is bounded", x, 1, 17, -2, 0);
        // worth is asked with step 0, the reason and the turn ahead of the move
        x = Check.with(0, 0);
        Check.law(x, "allows 1 ; worth (turn = 1 and step = 0 and reason = 2 and stone = 3) ; price 0 ;");
        x.set(1, 2);
        x.move(0, 2);
        bests("turn and reason ahead", x, 1, 3, 1, 0);
        x = Check.with(0, 0);
        Check.law(x, "allows 1 ; worth reason = 0 and stone = 1 ; price 0 ;");
        bests("no last reason is 0", x, 1, 1, 1, 0);
        // no step may be gone
        x = Check.with(0, 0);
        x.move(1, 1);
        Check.law(x, "allows reason = 3 ; worth stone ; price 0 ;");
        bests("no step", x, 1, 1, 0, 3);
        // step 0, reason 3 frees it then, two times: to the left, then to the right
        bests("no step, then free", x, 2, 18, 0, 3);
        // a reason that binds at one's next turn alone is tried if it is within the turns
        x = Check.with(0, 0);
        Check.law(x, "allows reason = 2 ; worth stone = 4 ; price 0 ;");
        bests("one turn", x, 1, 17, -2, 0);
        bests("two turns", x, 2, 4, 2, 2);
        // a further reason is none
        x = Check.with(0, 0);
        Check.law(x, "allows reason = 4 ; worth stone = 4 ; price 0 ;");
        bests("no reason helps", x, 2, 17, -2, 0);
        // two envoys, three turns: -2, -1, and 2 to the left, which reason 1 alone lets one go
        x = Check.with(0, 0, 5, 0);
        Check.law(x, "allows reason = 1 and step = 2 ; worth stone = 14 ; price 0 ;");
        bests("three turns of two", x, 3, 14, -2, 1);
        x = Check.with(1, 9);
        Check.law(x, "allows 1 ; worth stone = 4 ; price 0 ;");
        bests("four to the right", x, 1, 4, 4, 0);
        Check.law(x, "allows 1 ; worth stone = 15 ; price 0 ;");
        bests("four to the left", x, 1, 15, -4, 0);
        bests("three turns, the first that does", x, 3, 15, -4, 0);
    }

    private static void force() {
        Ambassadors x = new Ambassadors();
        Check.due("no envoys", x.canForce(0, 0, 0), Ambassadors.STATE);
        Check.due("no envoys", x.reach(0, 4), Ambassadors.STATE);
        Check.due("bits of none", x.reach(1, 0), Ambassadors.BAD);
        x = Check.with(0, 0, 5, 0);
        Check.due("bits", x.canForce(4, 0, 0), Ambassadors.BAD);
        Check.due("bits below 0", x.canForce(-1, 0, 0), Ambassadors.BAD);
        Check.due("place", x.canForce(0, 19, 0), Ambassadors.BAD);
        Check.due("place -1", x.canForce(0, -1, 0), Ambassadors.BAD);
        Check.due("5 turns", x.canForce(0, 0, 5), Ambassadors.BAD);
        Check.due("-1 turns", x.canForce(0, 0, -1), Ambassadors.BAD);
        Check.due("reach: bits", x.reach(4, 0), Ambassadors.BAD);
        Check.due("reach: 5 turns", x.reach(0, 5), Ambassadors.BAD);
        Check.due("reach: -1 turns", x.reach(0, -1), Ambassadors.BAD);
        Check.due("no turn", x.reach(0, 0), 1);
        Check.due("no turn, another place", x.canForce(3, 1, 0), 0);
        Check.due("one turn of 0", x.reach(1, 1), Check.bits(17, 18, 0, 1, 2));
        Check.due("one turn of 0, but not by it", x.reach(2, 1), 0);
        Check.due("both, two turns", x.reach(3, 2), Check.bits(16, 17, 18, 0, 1, 2, 3));
        Check.due("0 against 1", x.reach(1, 2), 0);
        // 1 goes 1 at most, then 0 goes 2: from 0 always reached by 0 at last
        Check.due("0, 1, 0: places within 1 of all", x.reach(1, 3), Check.bits(16, 17, 18, 0, 1, 2, 3));
        Check.due("it can", x.canForce(1, 3, 3), 1);
        Check.due("it can't", x.canForce(1, 4, 3), 0);
        Check.due("nothing changed", x.count(2) + x.count(3) * 10, 0);
        Check.due("four either way", Check.with(1, 9).reach(1, 1), Check.bits(15, 16, 17, 18, 0, 1, 2, 3, 4));
        // a law by the turn; reasons stay as they are
        x = Check.with(0, 0);
        x.move(0, 1);
        Check.law(x, "allows reason = 1 and (turn = 1 and step = 1 or turn = 3 and step = 2) ; worth 0 ; price 0 ;");
        Check.due("turn 1", x.reach(0, 1), Check.bits(1));
        Check.due("turns 1, 2: nothing happens in 2", x.reach(0, 2), Check.bits(1));
        Check.due("turns 1, 2, 3", x.reach(0, 3), Check.bits(3));
        Check.due("turns 1 to 4", x.canForce(1, 3, 4), 1);
        // the third turn to the left
        x = Check.with(0, 0);
        x.move(0, 1);
        x.move(0, 1);
        Check.law(x, "allows step = 2 ; worth 0 ; price 0 ;");
        Check.due("to the left", x.reach(0, 1), Check.bits(17));
    }

    private static void loosest() {
        Ambassadors x = Check.with(0, 0, 2, 7, 3, 0, 4, 4);
        Check.due("no such envoy", x.loosest(4, 0), -5);
        Check.due("envoy -1", x.loosest(-1, 9), -5);
        Check.due("what 2", x.loosest(0, 2), -7);
        Check.due("what -1", x.loosest(0, -1), -7);
        Check.due("reason 3 allows to stay", x.loosest(0, 0), 3);
        Check.due("5 steps", x.loosest(0, 1), 5);
        Check.due("a rash may not stay, so like ones", x.loosest(2, 0), 0);
        Check.due("6 steps", x.loosest(2, 1), 6);
        Check.law(x, "allows reason = 1 and not step = 2 or step = stone - turn ; worth 0 ; price 0 ;");
        Check.due("reason 1", x.loosest(0, 0), 1);
        Check.due("4 steps of -2 .. 1", x.loosest(0, 1), 4);
        Check.due("a sly is not bound by 3", x.loosest(1, 0), 3);
        Check.due("5 steps", x.loosest(1, 1), 5);
        Check.due("an old one is not bound by 0", x.loosest(3, 0), 0);
        Check.due("3 steps", x.loosest(3, 1), 3);
        x.set(1, 2);
        Check.due("by the stone, too", x.loosest(0, 1), 5);
        x.move(0, 2);
        Check.due("the last reason stays", x.told(0, 3), 2);
        x.loosest(0, 0);
        Check.due("the last reason stays", x.told(0, 3), 2);
        x.set(1, 4);
        Check.due("by the turn, too: step = 3", x.loosest(0, 1), 4);
    }

    private static void deals() {
        Ambassadors x = new Ambassadors();
        Check.due("no envoys", x.deals(0, 0), Ambassadors.STATE);
        x.envoy(0, 0);
        Check.due("one envoy", x.deals(0, 1), Ambassadors.STATE);
        Check.due("many -1", x.deals(-1, 0), Ambassadors.BAD);
        Check.due("many 6", x.deals(6, 0), Ambassadors.BAD);
        Check.due("what 2", x.deals(0, 2), Ambassadors.BAD);
        Check.due("what -1", x.deals(0, -1), Ambassadors.BAD);
        int[][] due = {{0, 1}, {2, 4, 2}, {24, 36, 18, 3}, {324, 432, 216, 48, 4}};
        int[] all = {1, 8, 81, 1024};
        for (int m = 2; m <= 5; m++) {
            x.envoy(0, 0);
            for (int many = 0; many <= 5; many++) {
                int ways = many < due[m - 2].length ? due[m - 2][many] : 0;
                Check.due(m + " envoys, just " + many, x.deals(many, 0), ways);
                Check.due(m + " envoys, all", x.deals(many, 1), all[m - 2]);
            }
        }
    }
}
