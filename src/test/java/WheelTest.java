/** Promises 1 to 3, 6, 7: the wheel, and the law as it is asked. */
public final class WheelTest {
    public static void main(String[] args) {
        newObject();
        set();
        force();
        asks();
        Check.finish();
    }

    private static void newObject() {
        Ambassadors x = new Ambassadors();
        int[] at = {0, 19, 0, 0, 0, 1, 0, 0};
        for (int i = 0; i < at.length; i++) {
            Check.due("count(" + i + ") of a new one", x.count(i), at[i]);
        }
        Check.due("count(8)", x.count(8), Ambassadors.BAD);
        Check.due("count(-1)", x.count(-1), Ambassadors.BAD);
        Check.due("next of a new one", x.next(), -1);
        Check.due("NO", Ambassadors.NO, -4611686018427387904L);
    }

    private static void set() {
        Ambassadors x = Check.with(0, 0);
        Check.due("set(2, 5)", x.set(2, 5), -5);
        Check.due("set(-1, 5)", x.set(-1, 5), -5);
        Check.due("set(0, 2)", x.set(0, 2), -7);
        Check.due("set(0, 20)", x.set(0, 20), -7);
        Check.due("set(1, 19)", x.set(1, 19), -7);
        Check.due("set(1, -1)", x.set(1, -1), -7);
        Check.due("set(1, 18)", x.set(1, 18), 0);
        Check.due("set(0, 7)", x.set(0, 7), 19);
        Check.due("places", x.count(1), 7);
        Check.due("the stone modulo 7", x.count(2), 4);
        Check.due("set(1, 7)", x.set(1, 7), -7);
        Check.due("set(1, 6)", x.set(1, 6), 4);
        Check.due("set(0, 3)", x.set(0, 3), 7);
        Check.due("the stone modulo 3", x.count(2), 0);
        Check.due("set(0, 19)", x.set(0, 19), 3);
        Check.due("move(1, 0)", x.move(1, 0), 1);
        Check.due("set(0, 5) with moves", x.set(0, 5), Ambassadors.STATE);
        Check.due("set(0, 2) with moves", x.set(0, 2), -7);
        Check.due("set(1, 9) with moves", x.set(1, 9), 1);
        Check.due("move(1, 0) from 9", x.move(1, 0), 10);
    }

    private static void force() {
        Ambassadors x = Check.with(0, 0);
        Check.due("force(1), no such", x.force(1), Ambassadors.BAD);
        Check.due("force(-1)", x.force(-1), Ambassadors.BAD);
        Check.due("force(0)", x.force(0), 0);
        Check.due("text", Check.text(x, "allows 0 ; worth 1 ; price 2 ;"), 1);
        Check.due("the law still", x.count(6), 0);
        Check.due("force(1)", x.force(1), 0);
        Check.due("the law", x.count(6), 1);
        Check.due("force(2)", x.force(2), Ambassadors.BAD);
        Check.due("force(0) again", x.force(0), 1);
    }

    private static void asks() {
        Ambassadors x = Check.with(0, 0, 1, 7);
        // HOMES are 0 and 9, wishes 1 and 0
        Check.due("allows, reason 3", x.asks(0, 0, 34, 0), 1);
        Check.due("allows, reason 0, staying", x.asks(0, 0, 4, 0), 0);
        Check.due("allows, reason 0, a step", x.asks(0, 0, 5, 0), 1);
        Check.due("worth of 0 at 0", x.asks(1, 0, 4, 0), 0);
        Check.due("worth of 0 at 9", x.asks(1, 0, 4, 9), 9);
        Check.due("worth of 0 at 18", x.asks(1, 0, 4, 18), 0);
        Check.due("worth of 1 at 18", x.asks(1, 1, 4, 18), 8);
        Check.due("price", x.asks(2, 1, 38, 18), 3);
        Check.due("part -1", x.asks(-1, 0, 4, 0), -1000);
        Check.due("part 3", x.asks(3, 0, 4, 0), -1000);
        Check.due("envoy 2", x.asks(0, 2, 4, 0), -1000);
        Check.due("envoy -1", x.asks(0, -1, 4, 0), -1000);
        Check.due("step 5", x.asks(0, 0, 9, 0), -1000);
        Check.due("reason 1, step 5", x.asks(0, 0, 19, 0), -1000);
        Check.due("reason 4", x.asks(0, 0, 40, 0), -1000);
        Check.due("below 0", x.asks(0, 0, -1, 0), -1000);
        Check.due("place 19", x.asks(0, 0, 4, 19), -1000);
        Check.due("place -1", x.asks(0, 0, 4, -1), -1000);
        String all = "((((reason*10+step)*10+stone)*10+more)*10+far)*10+turn";
        Check.law(x, "allows step ; worth " + all + " ; price 0 - 400 + reason + step * 100 ;");
        x.move(0, 0);
        x.move(0, 0);
        Check.due("step as told, 0", x.asks(0, 1, 4, 0), 0);
        Check.due("step as told, -1", x.asks(0, 1, 3, 0), 1);
        Check.due("a worth to the bound", x.asks(1, 1, 14, 0), 99);
        Check.due("a worth below the bound", x.asks(1, 1, 0, 0), -99);
        Check.due("a price below the bound", x.asks(2, 1, 0, 0), -99);
        Check.due("a price of 2", x.asks(2, 1, 28, 0), 2);
        Check.due("more 7, place 0, turn 2", x.asks(1, 1, 4, 0), 99);
        Check.law(x, "allows 1;worth more*10+turn;price far*10+stone;");
        Check.due("more 7, turn 2", x.asks(1, 1, 4, 5), 72);
        Check.due("far 5, place 5", x.asks(2, 1, 4, 5), 55);
        Check.due("far 4, place 5", x.asks(2, 0, 4, 5), 45);
        x.set(1, 3);
        Check.due("what is asked, not where the stone is", x.asks(2, 0, 4, 5), 45);
    }
}
