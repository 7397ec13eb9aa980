/** Promises 25 to 30: told games. */
public final class ToldTest {
    public static void main(String[] args) {
        refusals();
        judgeAndEnd();
        kinds();
        starts();
        laws();
        film();
        Check.finish();
    }

    private static void all(String how, Ambassadors x, int s, int want) {
        Check.due("judge, " + how, x.judge(s), want);
        Check.due("end, " + how, x.end(s, 0), want);
        Check.due("end with what 3, " + how, x.end(s, 3), want);
        Check.due("kinds, " + how, x.kinds(s, 0, 0), want);
        Check.due("kinds of no such, " + how, x.kinds(s, 7, 7), want);
        Check.due("starts, " + how, x.starts(s, 0), want);
        Check.due("starts with what 2, " + how, x.starts(s, 2), want);
        Check.due("laws, " + how, x.laws(s), want);
    }

    private static void refusals() {
        Ambassadors x = new Ambassadors();
        all("no such sheet", x, 4, Ambassadors.BAD);
        all("sheet -1", x, -1, Ambassadors.BAD);
        all("a missing sheet", x, 3, -11);
        Check.row(x, 0, 2, 1, 1, 1);
        all("not by twos", x, 0, Ambassadors.BAD);
        int[][] wrong = {{5, 0}, {-5, 0}, {0, 4}, {0, -1}, {1, 1, 1, 4}, {1, 1, 5, 1}, {256, 0}, {0, 65536}};
        for (int[] w : wrong) {
            Check.row(x, 0, 2, w);
            all("a wrong number", x, 0, Ambassadors.BAD);
        }
        Check.row(x, 0, 2, 4, 3, -4, 0);
        all("no envoys", x, 0, Ambassadors.STATE);
        x.envoy(0, 0);
        Check.due("end what 3", x.end(0, 3), -7);
        Check.due("end what -1", x.end(0, -1), -7);
        Check.due("kinds of 1", x.kinds(0, 1, 2), -5);
        Check.due("kinds of -1", x.kinds(0, -1, 0), -5);
        Check.due("kinds sort 2", x.kinds(0, 0, 2), -7);
        Check.due("kinds sort -1", x.kinds(0, 0, -1), -7);
        Check.due("starts what 2", x.starts(0, 2), -7);
        Check.due("starts what 99", x.starts(0, 99), -7);
        Check.due("starts what 1802", x.starts(0, 1802), -7);
        Check.due("starts what 1900", x.starts(0, 1900), -7);
        Check.due("starts what 1901", x.starts(0, 1901), -7);
        Check.due("starts what -1", x.starts(0, -1), -7);
        Check.due("starts what -100", x.starts(0, -100), -7);
        Check.due("starts what 1800", x.starts(0, 1800), x.starts(0, 0));
    }

    private static void judgeAndEnd() {
        for (int sort = 0; sort < 3; sort++) {
            Ambassadors x = Check.with(0, 0, 5, 0, 0, 0);
            // HOMES 0, 6, 12; wishes 1, 2, 0
            Check.row(x, 1, sort);
            Check.due("no moves told", x.judge(1), -1);
            Check.due("it ends where it is", x.end(1, 0), 0);
            Check.row(x, 1, sort, 2, 0, -1, 1, -2, 3, 1, 0);
            Check.due("all may be", x.judge(1), -1);
            // 2, 1, 3 (to the left, -2), 4
            Check.due("it ends on", x.end(1, 0), 4);
            Check.due("the winner", x.end(1, 1), 1);
            Check.due("who wish it", x.end(1, 2), 1);
            x.hope(2, 1);
            Check.due("who wish it", x.end(1, 2), 2);
            Check.row(x, 1, sort, 2, 0, -2, 1, -2, 3, 0, 0);
            Check.due("a shy one goes 1 at most", x.judge(1), 1);
            Check.due("it ends all the same", x.end(1, 0), 2);
            Check.row(x, 1, sort, 2, 0, 0, 1, -2, 3, 0, 0);
            Check.due("bound by what is told", x.judge(1), 3);
            Check.row(x, 1, sort, 2, 3, 0, 1, -2, 3, 0, 0);
            Check.due("reason 3 allows to stay", x.judge(1), -1);
            Check.due("nothing moved", x.count(2) + x.count(3) + x.count(4), 0);
            x.move(1, 1);
            Check.row(x, 1, sort, 1, 0);
            Check.due("from now on: turn 1 is the shy one's", x.end(1, 0), 2);
            Check.row(x, 1, sort, 2, 0);
            Check.due("from now on", x.judge(1), 0);
            Check.row(x, 1, sort, 0, 3, 0, 3, 0, 3);
            Check.due("bound by what was truly told", x.judge(1), 2);
        }
        Ambassadors x = Check.with(0, 0);
        Check.row(x, 0, 0, 252, 0);
        Check.due("a byte of 252 is -4", x.end(0, 0), 15);
        // more moves than are kept
        for (int k = 0; k < 55; k++) {
            x.move(1, 3);
        }
        Check.row(x, 0, 0, new int[40]);
        x.cell(0, 38, 3);
        Check.due("20 moves behind 55: staying by reason 0", x.judge(0), 1);
    }

    private static void kinds() {
        Ambassadors x = Check.with(0, 4, 0, 0);
        Check.row(x, 0, 1, 1, 0, 0, 0);
        Check.due("any goes 1", x.kinds(0, 0, 0), 63);
        Check.due("1 stays, free: not a rash", x.kinds(0, 1, 0), 55);
        Check.row(x, 0, 1, 3, 0, 0, 0);
        Check.due("a bold goes 3", x.kinds(0, 0, 0), Check.bits(1, 3));
        Check.due("by 1 it can't be mended", x.kinds(0, 1, 0), 0);
        Check.due("no more makes an envoy bold", x.kinds(0, 0, 1), 0);
        Check.row(x, 0, 1, 1, 0, 0, 0, 0, 0);
        Check.due("stays by reason 0: a sly (4), an old", x.kinds(0, 0, 0), Check.bits(2, 4));
        Check.row(x, 0, 1, 1, 2, 0, 0, 0, 0);
        Check.due("stays by reason 2: none of 4", x.kinds(0, 0, 0), 0);
        Check.due("kinds stay", x.told(0, 0), 0);
        x = Check.with(2, 0, 0, 0);
        Check.row(x, 0, 1, 1, 2, 0, 0, 0, 0);
        Check.due("a sly not bound by 2", x.kinds(0, 0, 1), Check.bits(2, 6));
        Check.due("more stays", x.told(0, 1), 0);
        x = Check.with(4, 0, 0, 0);
        Check.row(x, 0, 1, 1, 2, 0, 0, 0, 0);
        Check.due("an old not bound by 2", x.kinds(0, 0, 1), Check.bits(2, 5, 6, 7, 8, 9));
        x = Check.with(1, 0);
        Check.row(x, 0, 1, 4, 2);
        Check.due("a bold goes 4 by 9", x.kinds(0, 0, 1), Check.bits(9));
        Check.law(x, "allows more = step ; worth 0 ; price 0 ;");
        Check.row(x, 0, 1, 0, 0, 3, 1);
        Check.due("more as the law has it", x.kinds(0, 0, 1), Check.bits(3));
    }

    private static void starts() {
        Ambassadors x = Check.with(0, 0);
        Check.law(x, "allows stone < 4 and not stone = 2 ; worth 0 ; price 0 ;");
        Check.row(x, 2, 2, 1, 0, 1, 0);
        Check.due("behind the first less than 4, not 2", x.starts(2, 0), Check.bits(18, 0, 2));
        Check.due("any place", x.starts(2, 700), Check.bits(18, 0, 2));
        Check.due("it would end on 7, may it or not", x.starts(2, 701), Check.bits(5));
        Check.due("it would end on 0", x.starts(2, 1), Check.bits(17));
        Check.due("the stone stays", x.count(2), 0);
        x.set(0, 5);
        Check.due("of 5 places", x.starts(2, 0), Check.bits(0, 2, 4));
        Check.due("place 5 of 5", x.starts(2, 501), -7);
        Check.due("place 4 of 5", x.starts(2, 401), Check.bits(2));
    }

    private static void laws() {
        Ambassadors x = Check.with(0, 0);
        Check.text(x, "allows 1 ; worth 0 ; price 0 ;");
        Check.text(x, "allows 0 ; worth 0 ; price 0 ;");
        Check.text(x, "allows step = 0 ; worth 0 ; price 0 ;");
        Check.row(x, 0, 0, 1, 0, 0, 0);
        Check.due("stays by reason 0", x.laws(0), Check.bits(1, 3));
        Check.row(x, 0, 0, 1, 0, 1, 0);
        Check.due("goes by reason 0", x.laws(0), Check.bits(0, 1));
        Check.row(x, 0, 0, 3, 0);
        Check.due("by none", x.laws(0), 0);
        Check.row(x, 0, 0);
        Check.due("by all", x.laws(0), 15);
        Check.due("the law stays", x.count(6), 0);
    }

    private static void film() {
        Ambassadors x = Check.with(3, 9);
        Check.due("no such sheet", x.film(4, 0), Ambassadors.BAD);
        Check.due("sheet -1", x.film(-1, 0), Ambassadors.BAD);
        Check.due("from -1", x.film(0, -1), Ambassadors.BAD);
        Check.due("from 61", x.film(0, 61), Ambassadors.BAD);
        Check.due("still missing", x.judge(0), -11);
        Check.due("no moves", x.film(0, 60), 0);
        Check.due("a row of none", x.judge(0), -1);
        Check.due("it has no cell", x.cell(0, 0, 0), -12);
        for (int k = 0; k < 25; k++) {
            x.move(k % 9 - 4, k % 4);
        }
        Check.row(x, 0, 2, 7, 7, 7);
        Check.due("the last three", x.film(0, 22), 3);
        Check.due("six bytes", x.cell(0, 6, 0), -12);
        Check.due("of sort bytes", x.envoysBy(0, 0, 0, 0), 0);
        // moves 22, 23, 24: steps 0, 1, 2 by reasons 2, 3, 0, now in turns 25, 26, 27
        Check.due("they move on, the second to the left", x.end(0, 0), (x.count(2) - 1 + 2 + 19) % 19);
        Check.due("from 3 on, 20 at most", x.film(1, 3), 20);
        Check.due("40 bytes", x.cell(1, 39, 3), 1);
        Check.due("all 25", x.film(1, 0), 20);
        Check.due("from 25", x.film(1, 25), 0);
        // a film played from where it began ends where it ended
        Ambassadors y = Check.with(3, 9);
        y.image();
        int[] steps = {-4, 3, 2, -1, 4};
        for (int k = 0; k < 5; k++) {
            y.move(steps[k], k % 4);
        }
        int end = y.count(2);
        Check.due("five", y.film(3, 0), 5);
        y.back();
        Check.due("the film ends there", y.end(3, 0), end);
        Check.due("all may be", y.judge(3), -1);
    }
}
