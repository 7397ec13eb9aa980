/** What the tests share: the answer that is due, and short ways to bring an object where it is wanted. */
final class Check {
    private static int asked;
    private static int wrong;
    private static String ahead = "";

    private Check() {}

    static void due(String call, long got, long want) {
        asked++;
        if (got != want) {
            wrong++;
            System.out.println(ahead + call + " answered " + got + ", due is " + want);
        }
    }

    /** What stands ahead of each answer that is not as due, from now on. */
    static void named(String name) {
        ahead = name;
    }

    static int asked() {
        return asked;
    }

    static void finish() {
        System.out.println(asked + " answers, " + wrong + " not as due");
        if (wrong != 0 || asked == 0) {
            System.exit(1);
        }
    }

    /** An object with envoys: a kind, more, a kind, more .. */
    static Ambassadors with(int... kindsAndMores) {
        Ambassadors x = new Ambassadors();
        for (int i = 0; i < kindsAndMores.length; i += 2) {
            due("envoy", x.envoy(kindsAndMores[i], kindsAndMores[i + 1]), i / 2);
        }
        return x;
    }

    static void tape(Ambassadors x, String text) {
        for (int i = 0; i < text.length(); i += 5) {
            int n = Math.min(5, text.length() - i);
            int[] b = new int[5];
            for (int k = 0; k < n; k++) {
                b[k] = text.charAt(i + k);
            }
            x.feed(n, b[0], b[1], b[2], b[3], b[4]);
        }
    }

    /** What text() answers to a tape. */
    static int text(Ambassadors x, String text) {
        tape(x, text);
        due("bytes of " + text, x.count(7), text.length());
        return x.text();
    }

    /** A text that becomes the law. */
    static void law(Ambassadors x, String text) {
        int t = text(x, text);
        due("a text: " + text, t > 0 ? 1 : 0, 1);
        x.force(t);
    }

    static void row(Ambassadors x, int s, int sort, int... numbers) {
        due("sheet", x.sheet(s, sort, numbers.length), 1);
        for (int i = 0; i < numbers.length; i++) {
            due("cell", x.cell(s, i, numbers[i]), 1);
        }
    }

    static int bits(int... places) {
        int bits = 0;
        for (int p : places) {
            bits |= 1 << p;
        }
        return bits;
    }
}
