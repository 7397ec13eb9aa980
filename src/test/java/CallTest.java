/** Promises 17 to 19: wishes, calls. */
public final class CallTest {
    public static void main(String[] args) {
        may();
        call();
        worth();
        Check.finish();
    }

    private static void may() {
        Ambassadors x = Check.with(0, 0, 0, 0, 0, 0);
        // HOMES 0, 6, 12
        Check.due("no such envoy", x.may(3), -5);
        Check.due("envoy -1", x.may(-1), -5);
        Check.due("all others", x.may(0), 6);
        x.move(1, 0);
        Check.due("a step from 12", x.may(0), 2);
        Check.due("another one's move", x.may(1), 5);
        x.set(1, 9);
        x.move(0, 0);
        Check.due("staying is against nobody", x.may(1), 5);
        x.set(1, 8);
        x.move(2, 0);
        Check.due("turn 2 is to the left: from 8 to 6, nearer to both", x.may(2), 3);
        x.move(0, 3);
        Check.due("what was against stays so", x.may(0), 2);
        x.set(1, 6);
        x.move(3, 3);
        x.move(0, 3);
        x.move(3, 3);
        Check.due("none is left", x.may(0), 0);
        x = Check.with(0, 0);
        Check.due("alone", x.may(0), 1);
        x.move(1, 1);
        Check.due("alone, against oneself", x.may(0), 0);
        x = Check.with(0, 0, 0, 0, 0, 0);
        x.move(-1, 1);
        Check.due("against 1", x.may(0), 4);
        x.call(1, 0);
        Check.due("a shown card", x.may(0), 2);
        x.hope(0, 2);
        Check.due("a shown card, another wish", x.may(0), 4);
        // AGAINST is by where the stone was and came, not by set
        x = Check.with(0, 0, 0, 0);
        x.move(1, 1);
        x.set(1, 0);
        Check.due("towards 9", x.may(0), 2);
    }

    private static void call() {
        Ambassadors x = Check.with(0, 0, 0, 0, 0, 0);
        Check.due("oneself", x.call(1, 1), -5);
        Check.due("no such caller", x.call(3, 0), -5);
        Check.due("no such other", x.call(0, 3), -5);
        Check.due("below 0", x.call(-1, 0), -5);
        Check.due("no move yet", x.call(1, 0), Ambassadors.STATE);
        x.move(1, 0);
        Check.due("0 moved towards 1", x.call(1, 0), 1);
        Check.due("the caller's card", x.told(1, 5), 1);
        Check.due("not the other's", x.told(0, 5), 0);
        Check.due("1 has not moved", x.call(0, 1), Ambassadors.STATE);
        x.hope(0, 2);
        Check.due("0 moved away from 2", x.call(2, 0), 0);
        Check.due("the card of 0", x.told(0, 5), 1);
        Check.due("not the caller's", x.told(2, 5), 0);
        x.move(0, 0);
        x.move(0, 0);
        x.move(0, 3);
        Check.due("the last move alone counts", x.call(2, 0), 2);
        Check.due("a card stays shown", x.told(0, 5), 1);
    }

    private static void worth() {
        Ambassadors x = Check.with(0, 1, 0, 2, 0, 3, 0, 4, 0, 5);
        // HOMES 0, 3, 7, 11, 15
        Check.due("no move yet", x.worth(1, 0, 0), Ambassadors.NO);
        x.move(2, 1);
        // from 0 to 2: against 3 (8 to 9) and 4 (4 to 6), not 1 (3 to 1), 2 (7 to 5)
        Check.due("as many as not", x.worth(1, 0, 0), 0);
        Check.due("0 by 1", x.worth(1, 0, 1), 1);
        x.set(1, 11);
        x.move(1, 2);
        // from 11 to 12: against 3 (0 to 1) and 2 (4 to 5), not 0 (8 to 7), 4 (4 to 3)
        Check.due("as many as not", x.worth(0, 1, 0), 0);
        x.set(1, 13);
        x.move(-1, 3);
        // turn 2, to the left, so to the right: 13 to 14: against 3 (2 to 3), not 0 (6 to 5), 1 (9 to 8), 4 (2 to 1)
        Check.due("1 less 3, times 3, by 4", x.worth(0, 2, 0), -3);
        Check.due("below the line", x.worth(0, 2, 1), 2);
        Check.law(x, "allows 1 ; worth 0 ; price stone + far * reason * more * 2 + step ;");
        x.set(1, 6);
        // of envoy 3: stone 6, far of its wish's HOME 15 is 9, reason 3, more 4, step -1: over the bound
        Check.due("99 times 2 by 4", x.worth(3, 2, 0), -99);
        Check.due("99 times 2 by 4, below", x.worth(3, 2, 1), 2);
        Check.law(x, "allows 1 ; worth 0 ; price turn * 10 + more - reason + step ;");
        // of envoy 0: 30 + 1 - 3 - 1 = 27
        Check.due("-2 times 27 by 4", x.worth(0, 2, 0), -27);
        Check.due("-2 times 27 by 4, below", x.worth(0, 2, 1), 2);
        Check.due("part 2", x.worth(0, 2, 2), Ambassadors.NO);
        Check.due("part -1", x.worth(0, 2, -1), Ambassadors.NO);
        Check.due("one and the same", x.worth(2, 2, 0), Ambassadors.NO);
        Check.due("no such caller", x.worth(5, 2, 0), Ambassadors.NO);
        Check.due("no such other", x.worth(0, 5, 0), Ambassadors.NO);
        Check.due("below 0", x.worth(-1, 2, 0), Ambassadors.NO);
        Check.due("without a move", x.worth(0, 3, 0), Ambassadors.NO);
        Check.law(x, "allows 1 ; worth 0 ; price - 8 ;");
        Check.due("a price below 0", x.worth(0, 2, 0), 4);
        Check.due("a whole one", x.worth(0, 2, 1), 1);
    }
}
