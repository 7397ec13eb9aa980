/** The tape and the texts: promises 4, 5, and the terms on which they rest. */
final class EdgeText extends Edge {
    private static final String REST = ";worth 2;price 3;";

    static void run() {
        feed();
        text();
        tokens();
        grammar();
        values();
        faults();
    }

    private static void good(String text) {
        Used x = new Used();
        due("text <" + text + ">", text(x, text), 1);
    }

    /** The fault lies where | stands. */
    private static void faultAt(String text) {
        int place = text.indexOf('|');
        String tape = text.substring(0, place) + text.substring(place + 1);
        Used x = new Used();
        due("text <" + tape + ">", text(x, tape), -100 - place);
    }

    /** What e is, of envoy 1 (more 7, wish 0, HOMES 0 and 9), reason 2, step -3, place 5, turn 1. */
    private static void value(String e, int want) {
        Used x = with(0, 0, 0, 7);
        x.move(0, 0);
        law(x, "allows " + e + ";worth " + e + ";price 3;");
        due("worth of " + e, x.asks(1, 1, 21, 5), want);
        due("allows of " + e, x.asks(0, 1, 21, 5), want == 0 ? 0 : 1);
    }

    private static Used fed(int bytes, int with) {
        Used x = new Used();
        int i = 0;
        for (; i + 5 <= bytes; i += 5) {
            x.feed(5, with, with, with, with, with);
        }
        if (i < bytes) {
            x.feed(bytes - i, with, with, with, with, with);
        }
        due("bytes", x.count(7), bytes);
        return x;
    }

    private static Used moved(int moves) {
        Used x = plain(2);
        moves(x, moves);
        return x;
    }

    private static void feed() {
        sentence(4, "The first n (1 .. 5) of five bytes (0 .. 255 each) come behind THE TAPE's, one by one: how many it"
            + " has.", () -> {
                String text = "allows 1;worth 2;price 3;";
                for (int n = 1; n <= 5; n++) {
                    Used x = new Used();
                    for (int i = 0; i < text.length(); i += n) {
                        int m = Math.min(n, text.length() - i);
                        int[] b = {255, 255, 255, 255, 255};
                        for (int k = 0; k < m; k++) {
                            b[k] = text.charAt(i + k);
                        }
                        due("bytes by " + n, x.feed(m, b[0], b[1], b[2], b[3], b[4]), i + m);
                    }
                    due("a text by " + n, x.text(), 1);
                }
                Used x = new Used();
                due("bytes 0", x.feed(5, 0, 0, 0, 0, 0), 5);
                due("bytes 255", x.feed(5, 255, 255, 255, 255, 255), 10);
                due("one", x.feed(1, 0, 255, 0, 255, 0), 11);
            });
        sentence(4, "BAD: n, any of the five", () -> {
            for (int n : new int[] {0, 6, -1, 7, 256, MIN, MAX}) {
                refused("feed of " + n, States::rich, x -> x.feed(n, 49, 50, 51, 52, 53), BAD);
            }
            for (int i = 0; i < 5; i++) {
                for (int v : new int[] {-1, 256, MIN, MAX}) {
                    int[] b = {32, 32, 32, 32, 32};
                    b[i] = v;
                    for (int n = 1; n <= 5; n += 4) {
                        int m = n;
                        refused("feed of " + m + ", byte " + i + " is " + v, States::alone,
                            x -> x.feed(m, b[0], b[1], b[2], b[3], b[4]), BAD);
                    }
                }
            }
        });
        sentence(4, "FULL: they have not all room (none comes).", () -> {
            for (int room = 0; room <= 5; room++) {
                for (int n = 1; n <= 5; n++) {
                    Used x = fed(160 - room, 32);
                    due(n + " with room for " + room, x.feed(n, 48, 48, 48, 48, 48), n <= room ? 160 - room + n : FULL);
                    due("bytes", x.count(7), n <= room ? 160 - room + n : 160 - room);
                    // behind blanks: of a number that came, or of nothing that came
                    due("the fault", x.text(), -100 - 160 + room);
                }
            }
            Used y = fed(157, 32);
            due("four have no room", y.feed(4, 'a', 'a', 'a', 'a', 'a'), FULL);
            due("three have room", y.feed(3, 32, 32, 32, 0, 0), 160);
            due("none came, so nothing is there but blanks", y.text(), -260);
            due("one, with no byte too many", fed(160, 32).feed(1, 0, 0, 0, 0, 0), FULL);
            due("BAD, and no room", fed(160, 32).feed(1, 0, 0, 0, 0, 256), BAD);
            due("BAD, and no room", fed(160, 32).feed(6, 0, 0, 0, 0, 0), BAD);
            refused("a feed of 1", States::full, x -> x.feed(1, 49, 50, 51, 52, 53), FULL);
            refused("a feed of 5", () -> fed(156, 'a'), x -> x.feed(5, 49, 50, 51, 52, 53), FULL);
        });
        sentence(TERMS, "A TEXT is read from THE TAPE (160 bytes at most).", () -> {
            String text = "allows 1;worth 2;price";
            String blanks = " ".repeat(160 - text.length() - 2);
            good(text + blanks + "3;");
            good(text + "3;" + blanks);
            faultAt(text + blanks + "3|:");
            faultAt(text + blanks + " 3|");
        });
    }

    private static void text() {
        sentence(5, "THE TAPE, which is empty then (by a FAULT, too), is a TEXT: its number", () -> {
            Used x = new Used();
            for (int t = 1; t < 6; t++) {
                tape(x, "allows 1;worth " + t + ";price 3;");
                due("a text", x.text(), t);
                due("bytes behind a text", x.count(7), 0);
                due("texts", x.count(5), t + 1);
            }
            x = new Used();
            tape(x, "allows 1;worth");
            due("a fault", x.text(), -114);
            due("bytes behind a fault", x.count(7), 0);
            due("texts behind a fault", x.count(5), 1);
            due("nothing is left of it", text(x, "allows 1;worth 2;price 3;"), 1);
            // nor of many long ones
            Used y = plain(1);
            String sums = "allows 1" + "+1".repeat(60) + ";";
            for (int k = 0; k < 8; k++) {
                due("a fault", text(y, sums), -100 - sums.length());
            }
            law(y, "allows 0;worth 2+3*4;price 7-9;");
            due("allows", y.asks(0, 0, 4, 0), 0);
            due("worth", y.asks(1, 0, 4, 0), 14);
            due("price", y.asks(2, 0, 4, 0), -2);
        });
        sentence(5, "-100 less the place of its FAULT.", () -> {
            Used x = new Used();
            due("an empty tape", x.text(), -100);
            due("a fault at the first byte", text(x, "?"), -100);
            due("a fault at byte 1", text(x, "\n?"), -101);
            String blanks = " ".repeat(159);
            due("a fault at the last byte", text(x, blanks + "?"), -259);
            due("a fault behind the last byte", text(x, blanks + " "), -260);
            due("no texts came", x.count(5), 1);
            // by a fault nothing changes but the tape
            asking("a fault", () -> moved(3), y -> text(y, "allows 1;worth 2;price 3"));
        });
        sentence(5, "FULL (ahead of the FAULT; then THE TAPE stays).", () -> {
            Used x = new Used();
            for (int t = 1; t < 6; t++) {
                due("a text", text(x, "allows 1;worth 2;price 3;"), t);
            }
            due("an empty tape", x.text(), FULL);
            tape(x, "?");
            due("a fault", x.text(), FULL);
            due("bytes", x.count(7), 1);
            due("the tape goes on", x.feed(5, 'a', 'a', 'a', 'a', 'a'), 6);
            due("once more", x.text(), FULL);
            due("bytes", x.count(7), 6);
            Used y = new Used();
            for (int t = 1; t < 6; t++) {
                text(y, "allows 1;worth 2;price 3;");
            }
            tape(y, "allows 1;worth 2;price 3;");
            due("a text without fault", y.text(), FULL);
            due("bytes", y.count(7), 25);
            due("texts", y.count(5), 6);
            refused("text()", States::full, z -> z.text(), FULL);
        });
    }

    private static void tokens() {
        sentence(TERMS, "TOKENS, each as long as can be: WORDS (as many letters a .. z as stand there)", () -> {
            good("allows more" + REST);
            faultAt("|allowsmore" + REST);
            faultAt("allows |reasonstep" + REST);
            faultAt("allows step |stepor" + REST);
            faultAt("allows |notstep" + REST);
            faultAt("allows 1 |orstep" + REST);
            faultAt("allows 1;worth 2;|pricestep;");
            good("allows1;worth2;price3;");
            good("allows 1or 2and 3" + REST);
            good("allows not(1)and-1" + REST);
            // the signs next to a and z, and capitals, are no letters
            for (char c : new char[] {96, 123, 'A', 'Z', '_', 'a' + 128, 64, 91}) {
                faultAt("allows step|" + c + REST);
                faultAt("allows |" + c + "step" + REST);
            }
            for (String word : new String[] {"a", "z", "stepa", "stepz", "astep", "zstep", "stzep"}) {
                faultAt("allows |" + word + REST);
            }
        });
        sentence(TERMS, ", NUMBERS (as many digits as stand there; more than 4 are too long)", () -> {
            value("0", 0);
            value("9", 9);
            value("0099", 99);
            value("9999 - 9901", 98);
            value("0000", 0);
            good("allows 9999" + REST);
            faultAt("allows |10000" + REST);
            faultAt("allows |00000" + REST);
            faultAt("allows |99999999999999999999" + REST);
            faultAt("allows 1 |1" + REST);
            faultAt("allows 1234 |5" + REST);
            // the signs next to 0 and 9 are no digits
            faultAt("allows 1|/" + REST);
            faultAt("allows 1|:" + REST);
            faultAt("allows |/1" + REST);
            faultAt("allows |:1" + REST);
            faultAt("allows 1|" + (char) ('1' + 128) + REST);
        });
        sentence(TERMS, ", SIGNS ( ) ; + - * < = ;", () -> {
            good("allows(1)+2-3*4<5;worth(1)=2;price-1;");
            for (int b = 0; b < 256; b++) {
                boolean blank = b == 32 || b == 10;
                Used x = new Used();
                x.feed(1, b, 0, 0, 0, 0);
                due("byte " + b + " ahead", text(x, "allows 1;worth 2;price 3;"), blank ? 1 : -100);
                x = new Used();
                tape(x, "allows 1");
                x.feed(1, b, 0, 0, 0, 0);
                int want = blank || b == ';' ? -109 : b >= '0' && b <= '9' || "+-*<=".indexOf(b) >= 0 ? 1 : -108;
                due("byte " + b + " between", text(x, "1;worth 2;price 3;"), want);
                x = new Used();
                tape(x, "allows 1;worth 2;price 3;");
                x.feed(1, b, 0, 0, 0, 0);
                due("byte " + b + " behind", x.text(), blank ? 1 : -125);
            }
        });
        sentence(TERMS, "blanks (32, 10) may stand between.", () -> {
            good("allows 1;worth 2;price 3;");
            good("   allows   1   ;   worth   2   ;   price   3   ;   ");
            good("\n\nallows\n1\n;\nworth\n2\n;\nprice\n3\n;\n\n");
            good("allows(1);worth-2;price 3;");
            faultAt("|all ows 1" + REST);
            faultAt("allows |st ep" + REST);
            faultAt("allows 1 |2" + REST);
            faultAt("allows 1\n|2" + REST);
            for (char c : new char[] {9, 13, 11, 12, 0, 160, 31, 33}) {
                faultAt("allows 1|" + c + REST);
            }
        });
    }

    private static void grammar() {
        sentence(TERMS, "TEXT: allows E ; worth E ; price E ;", () -> {
            good("allows 1;worth 2;price 3;");
            faultAt("|worth 2;allows 1;price 3;");
            faultAt("|price 3;allows 1;worth 2;");
            faultAt("allows 1;|price 3;worth 2;");
            faultAt("allows 1;|allows 1;price 3;");
            faultAt("allows 1;worth 2;|worth 2;price 3;");
            faultAt("allows 1;worth 2;|;");
            faultAt("allows 1 |worth 2;price 3;");
            faultAt("allows |;worth 2;price 3;");
            faultAt("allows 1;worth |;price 3;");
            faultAt("allows 1;worth 2;price |;");
            faultAt("allows 1;|;worth 2;price 3;");
            faultAt("allows 1;worth 2;price 3;|;");
            faultAt("allows 1;worth 2;price 3;|allows");
            faultAt("allows 1;worth 2;price 3;|1");
            faultAt("allows |allows;worth 2;price 3;");
            faultAt("allows |worth;worth 2;price 3;");
            faultAt("|;allows 1;worth 2;price 3;");
            faultAt("|1;worth 2;price 3;");
            faultAt("|step 1;worth 2;price 3;");
        });
        sentence(TERMS, "E: AND { or AND }.", () -> {
            value("0 or 0", 0);
            value("0 or 0 or 0 or 1", 1);
            value("1 or 0 and 0", 1);
            value("0 and 0 or 1", 1);
            faultAt("allows |or 1" + REST);
            faultAt("allows 1 or|" + REST);
            faultAt("allows 1 or |or 1" + REST);
            faultAt("allows 1 or |and 1" + REST);
        });
        sentence(TERMS, "AND: NOT { and NOT }.", () -> {
            value("1 and 1 and 1", 1);
            value("1 and 1 and 0", 0);
            value("not 0 and 0", 0);
            value("not 1 and 1", 0);
            value("1 and not 0", 1);
            faultAt("allows |and 1" + REST);
            faultAt("allows 1 and|" + REST);
            faultAt("allows 1 and |and 1" + REST);
        });
        sentence(TERMS, "NOT: not NOT, or SUM, perhaps < or = and a SUM.", () -> {
            value("not 1 = 0", 1);
            value("not 0 < 0", 1);
            value("not not 5", 1);
            value("1 + 1 = 2", 1);
            value("2 = 1 + 1", 1);
            value("1 + 1 < 1 + 2", 1);
            faultAt("allows 1 < 2 |< 3" + REST);
            faultAt("allows 1 < 2 |= 3" + REST);
            faultAt("allows 1 = 2 |< 3" + REST);
            faultAt("allows 1 = 2 |= 3" + REST);
            faultAt("allows 1 <|" + REST);
            faultAt("allows |< 1" + REST);
            faultAt("allows 1 <|= 1" + REST);
            faultAt("allows 1 = |not 1" + REST);
            faultAt("allows not|" + REST);
            faultAt("allows 1 |not 1" + REST);
        });
        sentence(TERMS, "SUM: TERM { + or - TERM }.", () -> {
            value("9 - 3 - 2", 4);
            value("9 - 3 + 2", 8);
            value("9 + 3 - 2 + 1", 11);
            value("1 + 2 * 3", 7);
            value("2 * 3 + 1", 7);
            faultAt("allows |+ 1" + REST);
            faultAt("allows 1 +|" + REST);
            faultAt("allows 1 + |+ 1" + REST);
            faultAt("allows 1 -|" + REST);
            faultAt("allows 1 + |not 1" + REST);
        });
        sentence(TERMS, "TERM: ONE { * ONE }.", () -> {
            value("2 * 3 * 4", 24);
            value("2 * - 3", -6);
            value("- 2 * 3", -6);
            faultAt("allows |* 1" + REST);
            faultAt("allows 1 *|" + REST);
            faultAt("allows 1 * |* 1" + REST);
            faultAt("allows 1 * |not 1" + REST);
        });
        sentence(TERMS, "ONE: a NUMBER, a NAME, - ONE, ( E ).", () -> {
            value("12", 12);
            value("more", 7);
            value("- 12", -12);
            value("- - 12", 12);
            value("5 - - 3", 8);
            value("-more", -7);
            value("-(more)", -7);
            value("(0 or 5) + 1", 2);
            value("((5))", 5);
            faultAt("allows (|)" + REST);
            faultAt("allows (1|" + REST);
            faultAt("allows 1|)" + REST);
            faultAt("allows (1)|)" + REST);
            faultAt("allows (1|(" + REST);
            faultAt("allows -|" + REST);
            faultAt("allows - |not 1" + REST);
            faultAt("allows 1 |more" + REST);
            faultAt("allows more |1" + REST);
            faultAt("allows 1 |(1)" + REST);
            faultAt("allows (1)|(1)" + REST);
        });
        sentence(TERMS, "NAMES: reason step stone more far turn.", () -> {
            value("reason", 2);
            value("step", -3);
            value("stone", 5);
            value("more", 7);
            value("far", 5);
            value("turn", 1);
            value("((((reason*3+step)*3+stone)*3+more)-far)+turn", ((2 * 3 - 3) * 3 + 5) * 3 + 7 - 5 + 1);
        });
    }

    private static void values() {
        sentence(TERMS, "An E is an int (32 bits, wrapping)", () -> {
            // 2048 * 2048 * 512 is 2 to the 31st
            value("2048*2048*512 < 0", 1);
            value("2048*2048*512-1 < 0", 0);
            value("2048*2048*512-1+1 < 0", 1);
            value("0-2048*2048*512 < 0", 1);
            value("-(2048*2048*512) < 0", 1);
            value("-(2048*2048*512) = 2048*2048*512", 1);
            value("2048*2048*512*-1 < 0", 1);
            value("2048*2048*512-1 = -1-2048*2048*512", 1);
            value("2048*2048*512 < 2048*2048*512-1", 1);
            value("2048*2048*512-1 < 2048*2048*512", 0);
            value("2048*2048*512 < 1", 1);
            value("1 < 2048*2048*512", 0);
            value("2048*2048*1024", 0);
            value("2048*2048*1024+7", 7);
            value("2048*2048*512+2048*2048*512", 0);
            value("(9268*5)*(9268*5) < 0", 0);
            value("(9268*5+1)*(9268*5+1) < 0", 1);
            value("9999*9999*9999 < 0", 9999 * 9999 * 9999 < 0 ? 1 : 0);
            value("9999*9999*9999-" + "9999*9999*9999", 0);
        });
        sentence(TERMS, "of or, and, not, <, = 1 or 0 (what is not 0 is true).", () -> {
            value("5 or 0", 1);
            value("0 or 5", 1);
            value("-5 or 0", 1);
            value("0 or 0", 0);
            value("2 and 4", 1);
            value("-1 and 2", 1);
            value("2 and 0", 0);
            value("0 and 2", 0);
            value("0 and 0", 0);
            value("not 0", 1);
            value("not 1", 0);
            value("not 2", 0);
            value("not -1", 0);
            value("2048*2048*1024 or 0", 0);
            value("2048*2048*512 or 0", 1);
            value("256 and 1", 1);
            value("1 < 2", 1);
            value("2 < 2", 0);
            value("3 < 2", 0);
            value("-1 < 0", 1);
            value("2 = 2", 1);
            value("2 = -2", 0);
            value("0 = 0", 1);
            // an E of one part stays as it is
            value("5", 5);
            value("(-5)", -5);
        });
    }

    private static void faults() {
        sentence(TERMS, "FAULT: the place of the first byte of the first TOKEN that can't stand there", () -> {
            faultAt("allows   |price 1" + REST);
            faultAt("allows 1 |price" + REST);
            faultAt("allows 1\n  |(1)" + REST);
            // of two the first one, whatever the second is
            faultAt("allows 1 |2 ? 12345");
            faultAt("allows |; ?");
            faultAt("allows |? ;");
            faultAt("allows |12345 ?");
            faultAt("|worth ?");
            faultAt("allows 1;worth 2;price 3;|stepp 12345");
        });
        sentence(TERMS, "(the text's size, if it ends too early)", () -> {
            String text = "allows 1;worth 2;price 3;";
            // a word that is cut is no word, and stands where it begins
            int[] begins = {0, 0, 0, 0, 0, 0, 6, 7, 8, 9, 9, 9, 9, 9, 14, 15, 16, 17, 17, 17, 17, 17, 22, 23, 24};
            for (int size = 0; size < text.length(); size++) {
                Used x = new Used();
                due("text <" + text.substring(0, size) + ">", text(x, text.substring(0, size)), -100 - begins[size]);
                int blank = begins[size] == size ? size + 2 : begins[size];
                String blanks = text.substring(0, size) + " \n";
                due("text <" + blanks + ">", text(x, blanks), -100 - blank);
            }
            good(text);
            faultAt("|");
            faultAt("   |");
            faultAt("allows (1|");
            faultAt("allows not|");
            faultAt("allows 1 or |");
            faultAt("allows 1 <|");
            faultAt("allows (((((|");
        });
        sentence(TERMS, ", also of a byte that begins none", () -> {
            for (int b = 0; b < 256; b++) {
                boolean begins = b >= 'a' && b <= 'z' || b >= '0' && b <= '9' || "();+-*<= \n".indexOf(b) >= 0;
                if (!begins) {
                    Used x = new Used();
                    tape(x, "allows step ");
                    x.feed(2, b, 32, 0, 0, 0);
                    due("byte " + b, text(x, "1" + REST), -112);
                }
            }
        });
        sentence(TERMS, ", of a WORD that is neither KEY nor NAME", () -> {
            for (String word : new String[] {"s", "ste", "stepp", "steps", "xstep", "allow", "moree", "mor", "fa", "farr",
                "tur", "turns", "stones", "ston", "reasons", "reaso", "no", "nott", "o", "an", "andd", "orr", "prices"}) {
                faultAt("allows |" + word + REST);
                faultAt("allows 1 |" + word + " 1" + REST);
            }
            for (String word : new String[] {"reason", "step", "stone", "more", "far", "turn", "or", "and", "not"}) {
                for (int i = 0; i < word.length(); i++) {
                    faultAt("allows 1 |" + word.substring(0, i) + "x" + word.substring(i + 1) + " 1" + REST);
                    faultAt("allows |" + word.substring(0, i) + "x" + word.substring(i + 1) + REST);
                }
            }
            for (int i = 0; i < 5; i++) {
                faultAt("|" + "allows".substring(0, i) + "x" + "allows".substring(i + 1) + " 1" + REST);
                faultAt("allows 1;|" + "worth".substring(0, i) + "x" + "worth".substring(i + 1) + " 2;price 3;");
                faultAt("allows 1;worth 2;|" + "price".substring(0, i) + "x" + "price".substring(i + 1) + " 3;");
            }
            faultAt("|allow 1" + REST);
            faultAt("|allowss 1" + REST);
            faultAt("allows 1;|wort 2;price 3;");
            faultAt("allows 1;worth 2;|pric 3;");
            faultAt("allows 1;worth 2;|prices 3;");
        });
        sentence(TERMS, ", a NUMBER that is too long", () -> {
            good("allows 1234;worth 9999;price 0000;");
            faultAt("allows |12345" + REST);
            faultAt("allows 1;worth |12345;price 3;");
            faultAt("allows 1;worth 2;price |12345;");
            faultAt("allows 1 |12345" + REST);
            faultAt("allows (1 + |12345)" + REST);
            faultAt("|12345");
            // 2 to the 32nd, and as many digits as there are
            faultAt("allows |4294967297" + REST);
            faultAt("allows |" + "1".repeat(140) + REST.substring(0, 3));
        });
        sentence(TERMS, ", a ( , a not, a - ahead of a ONE while 5 of these are open", () -> {
            good("allows (((((1)))))" + REST);
            faultAt("allows (((((|(1))))))" + REST);
            good("allows not not not not not 1" + REST);
            faultAt("allows not not not not not |not 1" + REST);
            good("allows - - - - - 1" + REST);
            faultAt("allows - - - - - |- 1" + REST);
            faultAt("allows (((((|- 1)))))" + REST);
            faultAt("allows (((((|not 1)))))" + REST);
            faultAt("allows - - - - - |(1)" + REST);
            faultAt("allows not not not not not |(1)" + REST);
            faultAt("allows not not not not not |- 1" + REST);
            good("allows not(-(not 1))" + REST);
            good("allows not(-(-1))" + REST);
            faultAt("allows not(-(not|(1)))" + REST);
            faultAt("allows not(-(not|-1))" + REST);
            faultAt("allows not(-(not |not 1))" + REST);
            // the sign between two TERMS is none of these
            good("allows (((((1-1-1-1-1-1-1)))))" + REST);
            good("allows - - - - - 1 - 1" + REST);
        });
        sentence(TERMS, "(a ( till its ) , not and - till what they belong to ends).", () -> {
            good("allows (1)+(1)+(1)+(1)+(1)+(1)" + REST);
            good("allows (((((1)))))+(((((1)))))" + REST);
            good("allows -1+-1+-1+-1+-1+-1+-1" + REST);
            good("allows -1*-1*-1*-1*-1*-1*-1" + REST);
            good("allows - - - - - 1*(((((1)))))" + REST);
            good("allows not 1 and not 1 and not 1 and not 1 and not 1 and not 1" + REST);
            good("allows not 1 or not 1 or not 1 or not 1 or not 1 or not 1" + REST);
            good("allows not not not not not 1 and (((((1)))))" + REST);
            good("allows not not not not not 1 or - - - - - 1" + REST);
            // a ( is open till its ) alone: what stands in it, too
            faultAt("allows (1+((((|(1))))))" + REST);
            faultAt("allows (1 or not 1 and ((((|(1))))))" + REST);
            good("allows (1 or not 1 and ((((1)))))" + REST);
            // a not is open behind its < and =, and their signs
            faultAt("allows not 1=((((|(1)))))" + REST);
            faultAt("allows not 1<1+1*((((|(1)))))" + REST);
            faultAt("allows not 1+1<((((|-1))))" + REST);
            good("allows not 1=((((1))))" + REST);
            // a - is open till its ONE ends
            good("allows -1<(((((1)))))" + REST);
            good("allows -1+(((((1)))))" + REST);
            faultAt("allows -((((|(1)))))" + REST);
            good("allows 1;worth - - - - - 2;price(((((3)))));");
        });
        sentence(TERMS, "TEXTS are numbered from 0 on, 6 at most", () -> {
            Used x = plain(1);
            due("texts at first", x.count(5), 1);
            due("text 0", x.force(0), 0);
            for (int t = 1; t <= 5; t++) {
                due("no text " + t, x.force(t), BAD);
                due("text " + t, text(x, "allows 1;worth " + t + ";price 3;"), t);
            }
            due("six texts", x.count(5), 6);
            due("no text 6", x.force(6), BAD);
            due("no seventh", text(x, "allows 1;worth 9;price 3;"), FULL);
            due("six texts", x.count(5), 6);
            due("no text 6", x.force(6), BAD);
            for (int t = 5; t > 0; t--) {
                x.force(t);
                due("text " + t, x.asks(1, 0, 4, 0), t);
            }
        });
    }
}
