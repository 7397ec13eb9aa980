/** Promises 4 and 5: the tape, texts and their faults. */
public final class TextTest {
    public static void main(String[] args) {
        feed();
        faults();
        open();
        values();
        full();
        Check.finish();
    }

    private static void feed() {
        Ambassadors x = new Ambassadors();
        Check.due("n 0", x.feed(0, 1, 1, 1, 1, 1), Ambassadors.BAD);
        Check.due("n 6", x.feed(6, 1, 1, 1, 1, 1), Ambassadors.BAD);
        Check.due("n -1", x.feed(-1, 1, 1, 1, 1, 1), Ambassadors.BAD);
        for (int i = 0; i < 5; i++) {
            for (int v : new int[] {-1, 256, Integer.MIN_VALUE, Integer.MAX_VALUE}) {
                int[] b = {32, 32, 32, 32, 32};
                b[i] = v;
                Check.due("byte " + i + " is " + v, x.feed(1, b[0], b[1], b[2], b[3], b[4]), Ambassadors.BAD);
            }
        }
        Check.due("nothing came", x.count(7), 0);
        for (int i = 0; i < 31; i++) {
            Check.due("five come", x.feed(5, 0, 255, 32, 10, 7), 5 * i + 5);
        }
        Check.due("three come", x.feed(3, 1, 2, 3, 4, 5), 158);
        Check.due("three have no room", x.feed(3, 1, 2, 3, 4, 5), Ambassadors.FULL);
        Check.due("none came", x.count(7), 158);
        Check.due("BAD ahead of FULL", x.feed(3, 1, 2, 3, 4, 256), Ambassadors.BAD);
        Check.due("two have room", x.feed(2, 1, 2, 3, 4, 5), 160);
        Check.due("one has no room", x.feed(1, 1, 2, 3, 4, 5), Ambassadors.FULL);
        Check.due("byte 0 begins no token", x.text(), -100);
        Check.due("the tape is empty", x.count(7), 0);
        Check.due("an empty tape", x.text(), -100);
    }

    private static void fault(String text, int place) {
        Ambassadors x = new Ambassadors();
        Check.due("fault of <" + text + ">", Check.text(x, text), -100 - place);
        Check.due("the tape behind a fault", x.count(7), 0);
        Check.due("texts behind a fault", x.count(5), 1);
    }

    /** The fault lies where | stands. */
    private static void faultAt(String text) {
        int place = text.indexOf('|');
        fault(text.substring(0, place) + text.substring(place + 1), place);
    }

    private static void good(String text) {
        Ambassadors x = new Ambassadors();
        Check.due("<" + text + ">", Check.text(x, text), 1);
        Check.due("the tape behind a text", x.count(7), 0);
        Check.due("texts", x.count(5), 2);
    }

    private static void faults() {
        good("allows 1;worth 2;price 3;");
        good("allows1;worth2;price3;");
        good("\n allows 1 ; \n worth 2 ; price 3 ; \n ");
        good("allows reason+step*stone-more<far and turn;worth 9999;price - 0000;");
        good("allows 1 or 2 and 3 or not 4 = 5 ; worth 1 < 2 ; price (1 or 0) + (2 < 1) ;");
        faultAt("|");
        faultAt("   |");
        faultAt("|worth 1 ; worth 2 ; price 3 ;");
        faultAt("allows|");
        faultAt("allows |; worth 2 ; price 3 ;");
        faultAt("allows 1 |2 ; worth 2 ; price 3 ;");
        faultAt("allows 1 |price 3 ;");
        faultAt("allows 1 ; |price 3 ;");
        faultAt("allows 1 ; worth 2 ; price 3 |");
        faultAt("allows 1 ; worth 2 ; price 3  |");
        faultAt("allows 1 ; worth 2 ; price 3 ; |;");
        faultAt("allows 1 ; worth 2 ; price 3 ; |allows");
        faultAt("allows 1 ; worth 2 ; price 3 ; |9");
        faultAt("|allow 1 ; worth 2 ; price 3 ;");
        faultAt("|allowsx 1 ; worth 2 ; price 3 ;");
        faultAt("allows |reasonstep ; worth 2 ; price 3 ;");
        faultAt("allows |Step ; worth 2 ; price 3 ;");
        faultAt("allows |stepz ; worth 2 ; price 3 ;");
        faultAt("allows |astep ; worth 2 ; price 3 ;");
        faultAt("allows step|{ ; worth 2 ; price 3 ;");
        faultAt("allows step|` ; worth 2 ; price 3 ;");
        faultAt("allows |ste ; worth 2 ; price 3 ;");
        faultAt("allows 9|: ; worth 2 ; price 3 ;");
        faultAt("allows 9|step ; worth 2 ; price 3 ;");
        faultAt("allows |12345 ; worth 2 ; price 3 ;");
        faultAt("allows |00001 ; worth 2 ; price 3 ;");
        faultAt("allows 1 |\t; worth 2 ; price 3 ;");
        faultAt("allows 1 |\r; worth 2 ; price 3 ;");
        faultAt("allows 1 |/ 2 ; worth 2 ; price 3 ;");
        faultAt("allows 1 |\u00e9 2 ; worth 2 ; price 3 ;");
        faultAt("allows 1 < 2 |< 3 ; worth 2 ; price 3 ;");
        faultAt("allows 1 = 2 |= 3 ; worth 2 ; price 3 ;");
        faultAt("allows 1 + |not 2 ; worth 2 ; price 3 ;");
        faultAt("allows 1 < |not 2 ; worth 2 ; price 3 ;");
        faultAt("allows - |not 2 ; worth 2 ; price 3 ;");
        faultAt("allows |or 2 ; worth 2 ; price 3 ;");
        faultAt("allows 1 or |; worth 2 ; price 3 ;");
        faultAt("allows 1 and |; worth 2 ; price 3 ;");
        faultAt("allows 1 + |; worth 2 ; price 3 ;");
        faultAt("allows 1 * |; worth 2 ; price 3 ;");
        faultAt("allows |* 1 ; worth 2 ; price 3 ;");
        faultAt("allows |+ 1 ; worth 2 ; price 3 ;");
        faultAt("allows ( 1 |; worth 2 ; price 3 ;");
        faultAt("allows 1 |) ; worth 2 ; price 3 ;");
        faultAt("allows ( |) ; worth 2 ; price 3 ;");
        faultAt("allows ( 1 |");
        faultAt("allows 1 |not 2 ; worth 2 ; price 3 ;");
        faultAt("allows 1 |( 2 ) ; worth 2 ; price 3 ;");
        faultAt("allows |12345 ; worth ?");
        faultAt("allows 1 |2 ? 12345");
    }

    private static void open() {
        String rest = " ; worth 2 ; price 3 ;";
        good("allows (((((1)))))" + rest);
        faultAt("allows (((((|(1))))))" + rest);
        good("allows not not not not not 1" + rest);
        faultAt("allows not not not not not |not 1" + rest);
        good("allows - - - - - 1" + rest);
        faultAt("allows - - - - - |- 1" + rest);
        faultAt("allows not not ( - ( |- 1 ) )" + rest);
        faultAt("allows not not ( - ( |( 1 ) ) )" + rest);
        good("allows not not ( - ( 1 - 1 ) )" + rest);
        faultAt("allows (((( not |- 1 ))))" + rest);
        good("allows (((( not 1 - 1 ))))" + rest);
        // what is closed is open no more
        good("allows - 1 + ((((( 1 )))))" + rest);
        good("allows - 1 * - 1 * - 1 * - 1 * - 1 * - 1 * - 1" + rest);
        good("allows not 1 and not 1 and not 1 and not 1 and not 1 and not 1" + rest);
        good("allows not 1 or ((((( 1 )))))" + rest);
        good("allows (1)+(1)+(1)+(1)+(1)+(1)+(1)" + rest);
        // a not is open behind its < and =, too
        faultAt("allows not 1 = ((((|( 1 )))))" + rest);
        faultAt("allows not 1 < 1 + ((((|( 1 )))))" + rest);
        good("allows not 1 = (((( 1 ))))" + rest);
        faultAt("allows not (1 or (((|(1)))))" + rest);
        faultAt("allows not (1 or (((|- 1))))" + rest);
        good("allows 1 ; worth - - - - - 2 ; price ((((( 3 ))))) ;");
        faultAt("allows 1 ; worth 2 ; price - ((((|( 3 ))))) ;");
    }

    /** What a text's worth and allows is of envoy 1 (more 7, wish 0, HOMES 0 and 9): reason 2, step -3, place 5. */
    private static void value(String e, int worth, int allows) {
        Ambassadors x = Check.with(0, 0, 0, 7);
        x.move(0, 0);
        Check.law(x, "allows " + e + " ; worth " + e + " ; price " + e + " ;");
        Check.due("worth of " + e, x.asks(1, 1, 21, 5), worth);
        Check.due("price of " + e, x.asks(2, 1, 21, 5), worth);
        Check.due("allows of " + e, x.asks(0, 1, 21, 5), allows);
    }

    private static void values() {
        value("reason", 2, 1);
        value("step", -3, 1);
        value("stone", 5, 1);
        value("more", 7, 1);
        value("far", 5, 1);
        value("turn", 1, 1);
        value("0", 0, 0);
        value("0042", 42, 1);
        value("100", 99, 1);
        value("- 100", -99, 1);
        value("1 - 2 - 3", -4, 1);
        value("1 + 2 * 3", 7, 1);
        value("(1 + 2) * 3", 9, 1);
        value("- 2 * 3 + 10", 4, 1);
        value("- - 5", 5, 1);
        value("- (2 + 3)", -5, 1);
        value("2 - - 3", 5, 1);
        value("1 < 2", 1, 1);
        value("2 < 2", 0, 0);
        value("- 1 < 0", 1, 1);
        value("2 = 2", 1, 1);
        value("2 = 3", 0, 0);
        value("5 or 0", 1, 1);
        value("0 or 0", 0, 0);
        value("5 and 6", 1, 1);
        value("5 and 0", 0, 0);
        value("0 and 5", 0, 0);
        value("not 5", 0, 0);
        value("not 0", 1, 1);
        value("not not 5", 1, 1);
        value("not 1 = 0", 1, 1);
        value("1 or 0 and 0", 1, 1);
        value("(1 or 0) and 0", 0, 0);
        value("not 0 and 0", 0, 0);
        value("not 1 or 1", 1, 1);
        value("(1 < 2) + (3 < 4)", 2, 1);
        value("1 + 1 < 1 * 3", 1, 1);
        // as much as can be open at once, each part of it counting
        String deep = "0or1and1<1+1*(0or1and1<1+1*(0or1and1<1+1*(0or1and1<1+1*(0or1and1<1+1*(0or1and1<1+1*1)))))";
        Ambassadors x = Check.with(0, 0);
        Check.law(x, "allows " + deep + ";worth 1;price 2;");
        Check.due("deep", x.asks(0, 0, 4, 0), 1);
        x = Check.with(0, 0);
        Check.law(x, "allows " + deep.replace("1*1)", "1*0)") + ";worth 1;price 2;");
        Check.due("deep, with a 0 in the middle", x.asks(0, 0, 4, 0), 0);
        value("9999 * 9999 * 9999 * 0001", 9999 * 9999 * 9999 < 0 ? -99 : 99, 1);
        value("9999*9999*9999 = " + "- 1023 * 1000", 0, 0);
        value("4096 * 4096 * 256", 0, 0);
        value("4096 * 4096 * 128 < 0", 1, 1);
        value("- (4096 * 4096 * 128) < 0", 1, 1);
        value("4096 * 4096 * 128 - 1 < 0", 0, 0);
    }

    private static void full() {
        Ambassadors x = Check.with(0, 0);
        for (int t = 1; t < 6; t++) {
            Check.due("text", Check.text(x, "allows 1 ; worth " + t + " ; price 3 ;"), t);
        }
        Check.due("texts", x.count(5), 6);
        Check.tape(x, "allows ?");
        Check.due("a seventh, ahead of its fault", x.text(), Ambassadors.FULL);
        Check.due("the tape stays", x.count(7), 8);
        for (int t = 5; t > 0; t--) {
            x.force(t);
            Check.due("worth by text " + t, x.asks(1, 0, 4, 0), t);
        }
        x.force(0);
        Check.due("worth by text 0", x.asks(1, 0, 4, 2), 7);
    }
}
