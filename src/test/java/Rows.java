import java.util.function.IntConsumer;

/** Rows that several tests start from, and comparing all that a row answers of one thing. */
final class Rows {
    static final int MIN = Integer.MIN_VALUE;
    static final int MAX = Integer.MAX_VALUE;
    static final int NONE = GateRow.NONE;

    private Rows() {
    }

    static void states(String of, GateRow x, int... wants) {
        for (int what = 0; what < wants.length; what++) {
            Due.equal(of + ": state(" + what + ")", x.state(what), wants[what]);
        }
    }

    static void gates(String of, GateRow x, int gate, int... wants) {
        for (int what = 0; what < wants.length; what++) {
            Due.equal(of + ": gate(" + gate + ", " + what + ")", x.gate(gate, what), wants[what]);
        }
    }

    static void cards(String of, GateRow x, int card, int... wants) {
        for (int what = 0; what < wants.length; what++) {
            Due.equal(of + ": card(" + card + ", " + what + ")", x.card(card, what), wants[what]);
        }
    }

    static void lines(String of, GateRow x, int gate, int side, int... wants) {
        Due.equal(of + ": people", x.gate(gate, 4 + side), wants.length);
        for (int place = 0; place < wants.length; place++) {
            Due.equal(of + ": place " + place, x.inLine(gate, side, place), wants[place]);
        }
    }

    /** Each of the arguments must make the call throw, and leave the row as it was. */
    static void refuseAll(GateRow x, String what, Class<? extends RuntimeException> kind, IntConsumer call, int... all) {
        for (int each : all) {
            Due.refused(x, what + " of " + each, kind, () -> call.accept(each));
        }
    }

    static void noSide(GateRow x, IntConsumer call) {
        refuseAll(x, "side", IllegalArgumentException.class, call, -1, 2, MIN, MAX);
    }

    static void noIndex(GateRow x, int count, IntConsumer call) {
        refuseAll(x, "index", IndexOutOfBoundsException.class, call, -1, count, count + 1, MIN, MAX);
    }

    /** People without a card come to the end of a line, as long as they are not refused. */
    static void fill(GateRow x, int gate, int side, int people) {
        for (int n = 0; n < people; n++) {
            x.join(gate, side, NONE);
        }
    }

    /**
     * A row of gates of the mode 2, the first cards of 12 inside, two for each gate, and 16 people
     * without a card for each gate who followed them; all lines are empty, and all paddles closed.
     */
    static GateRow inside(int gates, int flow) {
        StringBuilder text = new StringBuilder("row 9 ").append(flow).append(';');
        for (int g = 0; g < gates; g++) {
            text.append("gate both;");
        }
        for (char name = 'a'; name <= 'l'; name++) {
            text.append("card ").append(name).append(" 9;");
        }
        GateRow x = Due.row(text.toString());
        for (int round = 0; round < 2; round++) {
            for (int g = 0; g < gates; g++) {
                x.join(g, 0, round * gates + g);
                fill(x, g, 0, 8);
            }
            x.tick(10);
        }
        return x;
    }

    /** Six gates with ten people without a card on both sides of each. */
    static GateRow full() {
        GateRow x = inside(6, 1);
        for (int g = 0; g < 6; g++) {
            fill(x, g, 0, 10);
            fill(x, g, 1, 10);
        }
        return x;
    }
}
