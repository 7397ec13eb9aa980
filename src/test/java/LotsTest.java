/** Promises 31 to 34: games by lots, images. */
public final class LotsTest {
    public static void main(String[] args) {
        drawn();
        odds();
        image();
        kept();
        Check.finish();
    }

    private static void drawn() {
        Ambassadors x = new Ambassadors();
        Check.due("no envoys", x.drawn(0, 0, 0), Ambassadors.STATE);
        Check.due("seed -1", x.drawn(-1, 0, 0), Ambassadors.BAD);
        Check.due("seed 100000", x.drawn(100000, 0, 0), Ambassadors.BAD);
        Check.due("-1 moves", x.drawn(0, -1, 0), Ambassadors.BAD);
        Check.due("41 moves", x.drawn(0, 41, 0), Ambassadors.BAD);
        Check.due("what 3", x.drawn(0, 0, 3), Ambassadors.BAD);
        Check.due("what -1", x.drawn(0, 0, -1), Ambassadors.BAD);
        x = Check.with(0, 0);
        Check.due("no moves", x.drawn(99999, 0, 0), 0);
        // seed 0: 48271, of 5 steps number 1: -1; reason 3016 modulo 4: 0
        Check.due("one move", x.drawn(0, 1, 0), 18);
        // then 48271 * 48271 modulo 2147483647 is 182605794, of 4 steps (no staying) number 2: 1
        Check.due("two moves", x.drawn(0, 2, 0), 0);
        Check.due("the winner", x.drawn(0, 2, 1), 0);
        Check.due("who wish it", x.drawn(0, 2, 2), 1);
        // seed 99999: 100000 * 48271 modulo 2147483647 is 532132706, of 5 number 1: -1
        Check.due("the last seed", x.drawn(99999, 1, 0), 18);
        Check.due("nothing moved", x.count(2) + x.count(3) + x.count(4), 0);
        Check.due("no reason came", x.told(0, 3), -1);
        // seed 1: 96542 by 16 is 6033, modulo 4 reason 1; 96542 of 5 number 2: 0
        x = Check.with(0, 0);
        Check.law(x, "allows reason = 1 and step = 2 ; worth 0 ; price 0 ;");
        Check.due("bound by reason 1", x.drawn(1, 2, 0), 2);
        Check.due("seed 0: bound by reason 0", x.drawn(0, 2, 0), 18);
        // none may be gone: 0, whatever the lot
        x = Check.with(0, 0);
        Check.law(x, "allows 0 ; worth 0 ; price 0 ;");
        x.move(2, 0);
        Check.due("it stays", x.drawn(5, 40, 0), 2);
        // a rash of 9: seven numbers less 0
        x = Check.with(3, 9);
        x.set(1, 9);
        Check.due("8 steps, number 7: 4", x.drawn(0, 1, 0), 13);
        // three envoys: 48271 of 5 is -1, 182605794 of 5 is 2 (4), the third to the left
        x = Check.with(0, 0, 0, 0, 0, 0);
        Check.due("two envoys' moves", x.drawn(0, 2, 0), 1);
        long third = 182605794L * 48271 % 2147483647L;
        int step = (int) (third % 5) - 2;
        Check.due("the third goes left", x.drawn(0, 3, 0), Math.floorMod(1 - step, 19));
    }

    private static void odds() {
        Ambassadors x = new Ambassadors();
        Check.due("no envoys", x.odds(0, 1, 0, 0), Ambassadors.NO);
        x = Check.with(0, 0, 0, 0);
        int[] wrong = {-1, -99, 0, 51, 100, 151, 4051, 4101, 4100, Integer.MIN_VALUE, Integer.MAX_VALUE};
        for (int w : wrong) {
            Check.due("odds of " + w, x.odds(0, w, 0, 0), Ambassadors.NO);
        }
        Check.due("seed -1", x.odds(-1, 1, 0, 0), Ambassadors.NO);
        Check.due("seed 100000", x.odds(100000, 1, 0, 0), Ambassadors.NO);
        Check.due("envoy 2", x.odds(0, 1, 2, 0), Ambassadors.NO);
        Check.due("envoy -1", x.odds(0, 1, -1, 0), Ambassadors.NO);
        Check.due("part 2", x.odds(0, 1, 0, 2), Ambassadors.NO);
        Check.due("part -1", x.odds(0, 1, 0, -1), Ambassadors.NO);
        Check.due("0 wishes 1, but it is 0", x.odds(0, 50, 0, 0), 0);
        Check.due("0 by 1", x.odds(0, 50, 0, 1), 1);
        Check.due("1 wishes 0", x.odds(0, 50, 1, 0), 1);
        Check.due("1 by 1", x.odds(0, 50, 1, 1), 1);
        for (int n : new int[] {3, 17, 40}) {
            for (int seeds : new int[] {1, 12, 50}) {
                int wins = 0;
                for (int i = 0; i < seeds; i++) {
                    wins += x.drawn(700 + i, n, 1) == x.told(1, 2) ? 1 : 0;
                }
                long above = x.odds(700, 100 * n + seeds, 1, 0);
                long below = x.odds(700, 100 * n + seeds, 1, 1);
                Check.due("odds as drawn", above * seeds, below * wins);
                Check.due("in lowest terms", gcd(above, below), 1);
            }
        }
    }

    private static long gcd(long a, long b) {
        return b == 0 ? a : gcd(b, a % b);
    }

    private static void image() {
        Ambassadors x = new Ambassadors();
        Check.due("no image", x.back(), Ambassadors.STATE);
        Check.due("an image of none", x.image(), 0);
        x.envoy(1, 1);
        Check.due("back to none", x.back(), 0);
        Check.due("none", x.count(0), 0);
        Check.due("no such", x.told(0, 0), -5);
        x.envoy(2, 2);
        Check.due("another one came", x.told(0, 0) * 10 + x.told(0, 1), 22);
        Check.due("an image of one", x.image(), 1);
        x.envoy(3, 3);
        Check.due("the first wishes the second", x.told(0, 2), 1);
        x.move(1, 2);
        x.move(1, 2);
        x.call(0, 1);
        Check.due("back to one", x.back(), 1);
        Check.due("it wishes itself", x.told(0, 2), 0);
        x.envoy(4, 4);
        Check.due("as one comes: kind", x.told(1, 0), 4);
        Check.due("as one comes: no last reason", x.told(1, 3), -1);
        Check.due("as one comes: no card shown", x.told(0, 5) + x.told(1, 5), 0);
        Check.due("the image stays", x.back(), 1);
    }

    private static void kept() {
        Ambassadors x = Check.with(0, 0, 0, 0, 0, 0);
        x.set(0, 12);
        x.move(1, 0);
        x.move(1, 1);
        x.hope(0, 2);
        x.call(2, 0);
        Check.due("image", x.image(), 3);
        int text = Check.text(x, "allows 0 ; worth 0 ; price 0 ;");
        x.force(text);
        x.hope(0, 1);
        x.move(4, 3);
        x.move(4, 3);
        x.set(1, 7);
        x.call(0, 1);
        x.sheet(0, 0, 2);
        Check.tape(x, "abc");
        Check.due("back", x.back(), 3);
        int[] counts = {3, 12, 2, 2, 2, 2, 0, 3};
        for (int i = 0; i < counts.length; i++) {
            Check.due("count(" + i + ") back", x.count(i), counts[i]);
        }
        int[][] told = {{2, 0, 1}, {2, 1, 0}, {0, -1, 0}};
        for (int e = 0; e < 3; e++) {
            Check.due("wish back", x.told(e, 2), told[e][0]);
            Check.due("last reason back", x.told(e, 3), told[e][1]);
            Check.due("card back", x.told(e, 5), told[e][2]);
        }
        Check.due("a move less", x.moved(2, 0), -105);
        Check.due("the second stays", x.moved(1, 2), 1);
        Check.due("sheets stay", x.judge(0), -1);
        x.move(-1, 2);
        Check.due("another third move", x.moved(2, 1), -1);
        Check.due("places can't be set", x.set(0, 5), Ambassadors.STATE);
        // places come back, too
        x = new Ambassadors();
        x.image();
        x.set(1, 17);
        x.set(0, 4);
        x.back();
        Check.due("places", x.count(1), 19);
        Check.due("the stone", x.count(2), 0);
    }
}
