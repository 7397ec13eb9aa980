/** Objects in which much could be changed by a refused call, made by the same calls each time. */
final class States {
    private States() {}

    static Used bare() {
        return new Used();
    }

    /** One envoy, no move, a text begun. */
    static Used alone() {
        Used x = Edge.with(3, 4);
        x.image();
        Edge.tape(x, "allows 1;wort");
        Edge.row(x, 1, 1, 2, 1);
        return x;
    }

    /** Three envoys, some moves, cards shown, an image of two, three texts, a text begun, sheets. */
    static Used rich() {
        Used x = new Used();
        x.set(0, 12);
        x.set(1, 7);
        Edge.law(x, "allows 1;worth stone;price 5;");
        x.envoy(1, 9);
        x.envoy(4, 2);
        x.image();
        x.envoy(2, 3);
        Edge.row(x, 0, 0, 1, 0, 2, 3);
        Edge.row(x, 1, 1, 1, 3, 0, 2);
        Edge.row(x, 2, 2, 2, 5, 1, 9, 3, 4);
        Edge.law(x, "allows step<2;worth far;price 7;");
        x.hope(0, 2);
        x.move(1, 1);
        x.move(0, 2);
        x.move(-1, 0);
        x.move(3, 3);
        x.move(2, 2);
        x.call(1, 0);
        x.set(1, 4);
        Edge.tape(x, "allows 1;worth 4;price ");
        return x;
    }

    /** All that there is room for: envoys, moves, texts, bytes, numbers; an image of none. */
    static Used full() {
        Used x = new Used();
        x.image();
        for (int e = 0; e < 5; e++) {
            x.envoy(e, 9 - e);
        }
        for (int t = 1; t < 6; t++) {
            Edge.text(x, "allows 1;worth " + t + ";price 3;");
        }
        x.force(3);
        for (int k = 0; k < 60; k++) {
            x.move(k % 5 - 2, k % 4);
        }
        for (int k = 0; k < 32; k++) {
            x.feed(5, 'a', ' ', ';', 'b', '1');
        }
        x.sheet(0, 0, 40);
        x.cell(0, 39, 3);
        x.cell(0, 0, 1);
        x.sheet(1, 1, 40);
        x.cell(1, 38, 4);
        x.sheet(2, 2, 0);
        x.sheet(3, 0, 39);
        return x;
    }
}
