import java.nio.file.Files;
import java.nio.file.Path;
import java.util.ArrayList;
import java.util.Arrays;
import java.util.List;
import java.util.Map;
import java.util.TreeMap;
import java.util.function.Supplier;
import java.util.function.ToLongFunction;

/** Tests of a sentence of the document each, named by its promise and its words. */
abstract class Edge {
    static final int TERMS = 0, WHAT_IT_IS = 40;
    static final int NONE = -1, BAD = -2, STATE = -3, FULL = -4;
    static final long NO = -4611686018427387904L;
    static final int MIN = Integer.MIN_VALUE, MAX = Integer.MAX_VALUE;
    private static final Path DOCUMENT = Path.of("../shared/DOC.md");
    private static final Map<Integer, List<String>> quoted = new TreeMap<>();

    static void sentence(int promise, String words, Runnable test) {
        quoted.computeIfAbsent(promise, p -> new ArrayList<>()).add(words);
        Check.named(part(promise) + " \"" + words + "\": ");
        int asked = Check.asked();
        try {
            test.run();
        } catch (RuntimeException e) {
            due("no call may throw " + e, 1, 0);
        }
        due("a test that asks something", Check.asked() > asked ? 1 : 0, 1);
        Check.named("");
    }

    private static String part(int promise) {
        return promise == TERMS ? "Terms" : promise == WHAT_IT_IS ? "What it is" : "Promise " + promise;
    }

    static void due(String call, long got, long want) {
        Check.due(call, got, want);
    }

    /** An object with envoys: a kind, more, a kind, more .. */
    static Used with(int... kindsAndMores) {
        Used x = new Used();
        for (int i = 0; i < kindsAndMores.length; i += 2) {
            due("envoy", x.envoy(kindsAndMores[i], kindsAndMores[i + 1]), i / 2);
        }
        return x;
    }

    /** An object with so many envoys of kind 0, more 0. */
    static Used plain(int envoys) {
        return with(new int[2 * envoys]);
    }

    static void tape(Used x, String text) {
        int had = 0;
        for (int i = 0; i < text.length(); i += 5) {
            int n = Math.min(5, text.length() - i);
            int[] b = new int[5];
            for (int k = 0; k < n; k++) {
                b[k] = text.charAt(i + k);
            }
            int has = x.feed(n, b[0], b[1], b[2], b[3], b[4]);
            due("bytes", i == 0 ? Math.min(has, n) : has, i == 0 ? n : had + n);
            had = has;
        }
    }

    /** What text() answers to a tape. */
    static int text(Used x, String text) {
        tape(x, text);
        return x.text();
    }

    /** A text that becomes the law. */
    static void law(Used x, String text) {
        int t = x.count(5);
        due("text <" + text + ">", text(x, text), t);
        x.force(t);
    }

    static void row(Used x, int s, int sort, int... numbers) {
        due("sheet", x.sheet(s, sort, numbers.length), 1);
        for (int i = 0; i < numbers.length; i++) {
            if (numbers[i] != 0) {
                due("cell", x.cell(s, i, numbers[i]), 1);
            }
        }
    }

    static int bits(int... places) {
        return Check.bits(places);
    }

    /** Bits of steps, 4 more than each. */
    static int stepBits(int... steps) {
        return bits(Arrays.stream(steps).map(s -> s + 4).toArray());
    }

    /** Moves of step 0, reason 3, till so many are made. */
    static void moves(Used x, int many) {
        while (x.count(4) < many && x.left() > 0) {
            due("a move", Math.min(0, x.move(0, 3)), 0);
        }
    }

    /** A refused call, and an object on which it was not made: all that can be asked of both is the same. */
    static void refused(String call, Supplier<Used> made, ToLongFunction<Used> refusal, long want) {
        Used x = made.get();
        due(call, refusal.applyAsLong(x), want);
        same("behind the refused " + call, Sight.of(x), Sight.of(made.get()));
    }

    /** Calls that ask, and an object on which they were not made: all that can be asked of both is the same. */
    static void asking(String calls, Supplier<Used> made, ToLongFunction<Used> questions) {
        Used x = made.get();
        questions.applyAsLong(x);
        same("behind " + calls, Sight.of(x), Sight.of(made.get()));
    }

    private static void same(String when, List<String> got, List<String> want) {
        for (int i = 0; i < Math.max(got.size(), want.size()); i++) {
            String g = i < got.size() ? got.get(i) : "nothing";
            String w = i < want.size() ? want.get(i) : "nothing";
            if (!g.equals(w)) {
                due(when + " <" + g + ">, due is <" + w + ">", 1, 0);
                return;
            }
        }
        due(when, 0, 0);
    }

    /** Says what no test quotes of the document, and what is quoted that it does not say (or no more). */
    static void tellWhatIsNotQuoted() throws Exception {
        System.out.println(quoted.values().stream().mapToInt(List::size).sum() + " sentences");
        if (!Files.exists(DOCUMENT)) {
            return;
        }
        String all = Files.readString(DOCUMENT);
        for (int promise = TERMS; promise < WHAT_IT_IS; promise++) {
            String said = said(all, promise);
            boolean[] covered = new boolean[said.length()];
            for (String words : quoted.getOrDefault(promise, List.of())) {
                int at = said.indexOf(words);
                if (at < 0) {
                    System.out.println("not in the document, " + part(promise) + ": \"" + words + "\"");
                } else {
                    Arrays.fill(covered, at, at + words.length(), true);
                }
            }
            StringBuilder left = new StringBuilder();
            for (int i = 0; i < covered.length; i++) {
                left.append(covered[i] ? '|' : said.charAt(i));
            }
            for (String words : left.toString().split("\\|+")) {
                if (words.matches(".*[a-zA-Z0-9].*")) {
                    System.out.println("not quoted of the document, " + part(promise) + ": \"" + words + "\"");
                }
            }
        }
    }

    /** What the document says in a part, without its heads. */
    private static String said(String all, int promise) {
        int from = all.indexOf("## " + part(promise) + (promise == TERMS ? "" : ":"));
        if (from < 0) {
            return "";
        }
        from = all.indexOf('\n', from);
        int to = all.indexOf("\n## ", from);
        String part = all.substring(from, to < 0 ? all.length() : to);
        return part.replaceAll("(?m)^(Ahead of the calls|```).*", "").replaceFirst("^\\s*`[^`]*`: ", "")
            .replaceAll("\\s+", " ").replaceAll("=====+ [0-9] ", "").trim();
    }
}
