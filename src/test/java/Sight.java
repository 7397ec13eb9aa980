import java.util.ArrayList;
import java.util.List;

/** All that can be asked of an object, a line each; the object is used up by it. */
final class Sight {
    private final Used x;
    private final List<String> lines = new ArrayList<>();

    private Sight(Used x) {
        this.x = x;
    }

    static List<String> of(Used x) {
        Sight sight = new Sight(x);
        sight.stands();
        sight.thinks();
        sight.sheets();
        sight.texts();
        sight.add("text()", x.text());
        sight.add("count(5)", x.count(5));
        sight.image();
        return sight.lines;
    }

    private void add(String call, long answer) {
        lines.add(call + " answered " + answer);
    }

    private void stands() {
        for (int what = 0; what < 8; what++) {
            add("count(" + what + ")", x.count(what));
        }
        for (int e = 0; e < x.count(0); e++) {
            for (int what = 0; what < 7; what++) {
                add("told(" + e + ", " + what + ")", x.told(e, what));
            }
        }
        add("next()", x.next());
        add("steps()", x.steps());
    }

    private void thinks() {
        int moves = x.count(4);
        for (int k = 0; k < moves; k++) {
            for (int what = 0; what < 5 && (k < 4 || k > moves - 3); what++) {
                add("moved(" + k + ", " + what + ")", x.moved(k, what));
            }
        }
        add("broken(-1, 0)", x.broken(-1, 0));
        add("broken(-1, 30)", x.broken(-1, 30));
        for (int e = 0; e < x.count(0); e++) {
            add("may(" + e + ")", x.may(e));
        }
        add("worth(0, 1, 0)", x.worth(0, 1, 0));
        add("worth(1, 0, 0)", x.worth(1, 0, 0));
        add("reach(1, 1)", x.reach(1, 1));
        for (int p = 0; p < 19; p += 4) {
            add("asks(0, 0, 14, " + p + ")", x.asks(0, 0, 14, p));
            add("asks(1, 0, 14, " + p + ")", x.asks(1, 0, 14, p));
        }
    }

    private void sheets() {
        for (int s = 0; s < 4; s++) {
            add("judge(" + s + ")", x.judge(s));
            add("end(" + s + ", 0)", x.end(s, 0));
            add("starts(" + s + ", 1)", x.starts(s, 1));
            add("laws(" + s + ")", x.laws(s));
        }
    }

    private void texts() {
        int law = x.count(6);
        int texts = x.count(5);
        for (int t = 0; t < texts; t++) {
            add("force(" + t + ")", x.force(t));
            for (int part = 0; part < 3; part++) {
                add("asks(" + part + ", 0, 13, 2)", x.asks(part, 0, 13, 2));
            }
        }
        x.force(law);
    }

    /** What comes back by the image; the sheets' numbers, by envoys who can come then. */
    private void image() {
        int envoys = x.back();
        add("back()", envoys);
        stands();
        if (envoys < 0 || x.count(4) > 0 || envoys > 2) {
            return;
        }
        for (int s = 0; s < 4; s++) {
            for (int sort = 0; sort < 3; sort++) {
                int came = x.envoysBy(s, sort, 0, 3);
                add("envoysBy(" + s + ", " + sort + ", 0, 3)", came);
                for (int e = envoys; e < envoys + came; e++) {
                    add("told(" + e + ", 0)", x.told(e, 0));
                    add("told(" + e + ", 1)", x.told(e, 1));
                }
                if (came != -13) {
                    x.back();
                }
            }
        }
    }
}
