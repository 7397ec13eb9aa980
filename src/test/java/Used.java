/** An object of the class, of which the tests make no more calls than the document promises answers for: 512. */
final class Used {
    private static final int CALLS = 512;

    private final Ambassadors made = new Ambassadors();
    private int calls;

    private Ambassadors x() {
        calls++;
        if (calls > CALLS) {
            Check.due("the test's own calls of one object", calls, CALLS);
        }
        return made;
    }

    /** How many calls may still be made. */
    int left() {
        return CALLS - calls;
    }

    int count(int what) {
        return x().count(what);
    }

    int set(int what, int v) {
        return x().set(what, v);
    }

    int feed(int n, int a, int b, int c, int d, int e) {
        return x().feed(n, a, b, c, d, e);
    }

    int text() {
        return x().text();
    }

    int force(int t) {
        return x().force(t);
    }

    int asks(int part, int e, int reasonStep, int at) {
        return x().asks(part, e, reasonStep, at);
    }

    int envoy(int kind, int more) {
        return x().envoy(kind, more);
    }

    int hope(int e, int w) {
        return x().hope(e, w);
    }

    int told(int e, int what) {
        return x().told(e, what);
    }

    int winner(int at) {
        return x().winner(at);
    }

    int next() {
        return x().next();
    }

    int steps() {
        return x().steps();
    }

    int move(int step, int reason) {
        return x().move(step, reason);
    }

    int moved(int k, int what) {
        return x().moved(k, what);
    }

    int broken(int e, int from) {
        return x().broken(e, from);
    }

    int may(int e) {
        return x().may(e);
    }

    int call(int e, int other) {
        return x().call(e, other);
    }

    long worth(int e, int other, int part) {
        return x().worth(e, other, part);
    }

    int best(int turns, int what) {
        return x().best(turns, what);
    }

    int canForce(int some, int at, int turns) {
        return x().canForce(some, at, turns);
    }

    int reach(int some, int turns) {
        return x().reach(some, turns);
    }

    int loosest(int e, int what) {
        return x().loosest(e, what);
    }

    int deals(int many, int what) {
        return x().deals(many, what);
    }

    int judge(int s) {
        return x().judge(s);
    }

    int end(int s, int what) {
        return x().end(s, what);
    }

    int kinds(int s, int e, int sort) {
        return x().kinds(s, e, sort);
    }

    int starts(int s, int what) {
        return x().starts(s, what);
    }

    int laws(int s) {
        return x().laws(s);
    }

    int film(int s, int from) {
        return x().film(s, from);
    }

    int drawn(int seed, int n, int what) {
        return x().drawn(seed, n, what);
    }

    long odds(int seed, int movesSeeds, int e, int part) {
        return x().odds(seed, movesSeeds, e, part);
    }

    int image() {
        return x().image();
    }

    int back() {
        return x().back();
    }

    int sheet(int s, int sort, int n) {
        return x().sheet(s, sort, n);
    }

    int cell(int s, int i, int v) {
        return x().cell(s, i, v);
    }

    int copy(int s, int i, int other, int j, int n) {
        return x().copy(s, i, other, j, n);
    }

    int envoysBy(int s, int sort, int at, int n) {
        return x().envoysBy(s, sort, at, n);
    }

    int taken(int i, int kind) {
        return x().taken(i, kind);
    }
}
