import java.util.NoSuchElementException;

/** Each promise with ordinary inputs, the edges that the document names, and wrong inputs. */
public final class PromiseTests {
    private static final Class<IllegalArgumentException> ARGUMENT = IllegalArgumentException.class;
    private static final Class<IndexOutOfBoundsException> INDEX = IndexOutOfBoundsException.class;
    private static final Class<IllegalStateException> STATE = IllegalStateException.class;
    private static final Class<NoSuchElementException> ELEMENT = NoSuchElementException.class;

    public static void main(String[] args) {
        Promises.run(PromiseTests.class, 1, 29);
        Due.end("PromiseTests");
    }

    private static void promise1_newObject() {
        GateRow x = new GateRow();
        Rows.states("new", x, 0, 0, 3, 2, 0, 0, 0, 0, 0, 0, 0, 0, 0, 0, 0, 0);
        Due.equal("new buffer is empty", x.find(0), -1);
        Due.thrown("new: find(1)", ARGUMENT, () -> x.find(1));
        Due.equal("new: nothing to undo", x.undo(), -1);
        Due.equal("as by the text", x.checksum(), Due.row("row 3 2;").checksum());
    }

    private static void promise2_append() {
        GateRow x = new GateRow();
        for (int n = 1; n <= 25; n++) {
            Due.equal("append " + n, x.append(0x20202020, 0x20202020, 0x20202020, 0x20202020, 0x20202020), 20 * n);
        }
        Due.equal("append 26", x.append(0, 0, 0, 0, 0), -1);
        Due.equal("append 27", x.append(0, 0, 0, 0, 0), -1);
        Due.equal("still spaces alone", x.load(500), GateRow.SYNTAX_ERROR);
        Due.equal("their end", x.errorOffset(), 500);
        Due.equal("append again", x.append(0x726f7720, 0x33203400, 0, 0, 0x3b000000), 20);
        Due.equal("the bytes are in order", x.load(7), GateRow.SYNTAX_ERROR);
        Due.equal("ends at", x.errorOffset(), 7);
        x.append(0x726f7720, 0x33203420, 0x20202020, 0x20202020, 0x2020203b);
        Due.equal("the last byte counts", x.load(20), 0);
        Due.equal("flow", x.state(3), 4);
    }

    private static void promise3_load() {
        GateRow x = new GateRow();
        Due.thrown("load(1) of none", ARGUMENT, () -> x.load(1));
        Due.equal("empty text", x.load(0), GateRow.SYNTAX_ERROR);
        String text = "row 1 4;gate in;gate both;card a 5;card b 0;list b;wait 1 in a;wait 1 in;tick 2;key 0;";
        int length = Due.buffer(x, text);
        Due.refused(x, "load(-1)", ARGUMENT, () -> x.load(-1));
        Due.refused(x, "load(more)", ARGUMENT, () -> x.load(length + 1));
        Due.refused(x, "load(min)", ARGUMENT, () -> x.load(Integer.MIN_VALUE));
        Due.equal("load", x.load(text.length()), 2);
        Due.refused(x, "the buffer is empty then", ARGUMENT, () -> x.load(1));
        Rows.states("loaded", x, 2, 2, 1, 4, 2, 1, 1, 0, 1, 1, 0, 0, 0, 0, 0, 0);
        Rows.cards("loaded", x, 0, 4, 1, 0, -1, -1, -1, 1);
        Rows.cards("loaded", x, 1, 0, 0, 1, -1, -1, -1, 0);
        Rows.gates("loaded", x, 1, 2, 0, -1, 0, 1, 0, 0, 1, 0);
        long before = x.checksum();
        Due.equal("wrong text", Due.load(x, "row 2 2;gate in;gato;"), GateRow.SYNTAX_ERROR);
        Due.equal("wrong text changes nothing", x.checksum(), before);
        Due.thrown("the buffer is empty also then", ARGUMENT, () -> x.load(1));
        Due.equal("all is replaced", Due.load(x, "row 3 2;"), 0);
        Due.equal("as new", x.checksum(), new GateRow().checksum());
        Due.buffer(x, "row 3 2;gate in;");
        Due.equal("first bytes alone", x.load(8), 0);
    }

    private static void promise4_errorOffset() {
        GateRow x = new GateRow();
        Due.equal("no call yet", x.errorOffset(), -1);
        Due.load(x, "row 3 5;");
        Due.equal("found", x.errorOffset(), 6);
        Due.thrown("load that throws", ARGUMENT, () -> x.load(-1));
        Due.equal("stays", x.errorOffset(), 6);
        Due.load(x, "row 3 2;");
        Due.equal("none", x.errorOffset(), -1);
        Due.load(x, "ro");
        Due.equal("at 0", x.errorOffset(), 0);
        Due.equal("undo of the load", x.undo(), 0);
        Due.equal("not affected by undo", x.errorOffset(), 0);
    }

    private static void promise5_state() {
        GateRow x = Due.row("row 2 1;gate both;gate out;card a 9;card b 9;wait 0 in a;wait 0 in;wait 0 in b;");
        Rows.states("waiting", x, 2, 2, 2, 1, 0, 0, 3, 0, 0, 0, 0, 0, 0, 0, 0, 0);
        x.tick(1);
        Rows.states("open", x, 2, 2, 2, 1, 1, 0, 3, 0, 0, 0, 0, 0, 0, 0, 0, 1);
        x.tick(2);
        Rows.states("two in", x, 2, 2, 2, 1, 3, 2, 1, 0, 0, 2, 0, 1, 0, 0, 0, 0);
        x.list(1, true);
        x.tick(1);
        Rows.states("b went away", x, 2, 2, 2, 1, 4, 2, 0, 0, 0, 2, 0, 1, 1, 0, 0, 0);
        x.join(1, 0, -1);
        x.join(1, 1, 0);
        x.join(0, 1, -1);
        x.key(0);
        x.key(2);
        x.tick(1);
        Rows.states("panic", x, 2, 2, 2, 1, 5, 0, 0, 1, 2, 2, 2, 1, 1, 1, 2, 0);
        Due.refused(x, "state(-1)", ARGUMENT, () -> x.state(-1));
        Due.refused(x, "state(16)", ARGUMENT, () -> x.state(16));
        Due.refused(x, "state(max)", ARGUMENT, () -> x.state(Integer.MAX_VALUE));
        Due.load(x, "row 2 1;");
        Rows.states("counted since the load", x, 0, 0, 2, 1, 0, 0, 0, 0, 0, 0, 0, 0, 0, 0, 0, 0);
    }

    private static void promise6_find() {
        GateRow x = Due.row("row 1 1;card a 1;card row 2;card zzzzzz 3;card ab 4;card aa 5;");
        Due.buffer(x, "zzzzzzz row");
        Due.equal("zzzzzz", x.find(6), 2);
        Due.equal("too long", x.find(7), -1);
        Due.equal("zzzzz", x.find(5), -1);
        Due.equal("none", x.find(0), -1);
        Due.equal("the buffer stays", x.find(6), 2);
        Due.refused(x, "find(-1)", ARGUMENT, () -> x.find(-1));
        Due.refused(x, "find(21)", ARGUMENT, () -> x.find(21));
        Due.equal("not a name, but of the buffer", x.find(20), -1);
        x.load(0);
        Due.buffer(x, "aab");
        Due.equal("a", x.find(1), 0);
        Due.equal("aa", x.find(2), 4);
        Due.equal("aab", x.find(3), -1);
        x.load(0);
        Due.buffer(x, "row;");
        Due.equal("row", x.find(3), 1);
        Due.equal("row;", x.find(4), -1);
        x.load(0);
        Due.buffer(x, "kbhsymw");
        Due.equal("a name kept in 32 bits would take this for a", x.find(7), -1);
        x.load(0);
        Due.buffer(x, " a");
        Due.equal("space a", x.find(2), -1);
        x.load(0);
        Due.buffer(x, "A1");
        Due.equal("A", x.find(1), -1);
        Due.equal("A1", x.find(2), -1);
        x.load(0);
        x.append(0, 0x61000000, 0, 0, 0);
        Due.equal("a byte 0", x.find(1), -1);
    }

    private static void promise7_gate() {
        GateRow x = Due.row("row 3 2;gate in;gate out;gate both;card a 2;wait 2 in;wait 2 in a;");
        Rows.gates("in", x, 0, 0, 0, -1, 0, 0, 0, 0, 0, -1);
        Rows.gates("out", x, 1, 1, 0, -1, 0, 0, 0, 0, 0, -1);
        Rows.gates("both", x, 2, 2, 0, -1, 0, 2, 0, 0, 0, -1);
        x.tick(1);
        Rows.gates("due", x, 2, 2, 3, 0, 1, 2, 0, 0, 1, 0);
        x.tick(1);
        Rows.gates("went", x, 2, 2, 2, 0, 0, 1, 0, 0, 1, 0);
        x.tick(1);
        Rows.gates("followed", x, 2, 2, 1, 0, 0, 0, 0, 1, 1, 0);
        x.join(2, 1, 0);
        x.tick(1);
        Rows.gates("closed", x, 2, 2, 0, -1, 0, 0, 1, 1, 1, 0);
        x.tick(1);
        Rows.gates("out", x, 2, 2, 3, 1, 1, 0, 1, 1, 2, 1);
        Due.refused(x, "gate(-1, 0)", INDEX, () -> x.gate(-1, 0));
        Due.refused(x, "gate(3, 0)", INDEX, () -> x.gate(3, 0));
        Due.refused(x, "gate(6, -1)", INDEX, () -> x.gate(6, -1));
        Due.refused(x, "gate(0, -1)", ARGUMENT, () -> x.gate(0, -1));
        Due.refused(x, "gate(0, 9)", ARGUMENT, () -> x.gate(0, 9));
    }

    private static void promise8_card() {
        GateRow x = Due.row("row 1 2;gate in;gate both;card a 2;card b 99;card c 0;list c;wait 1 in;wait 1 in b;");
        Rows.cards("a", x, 0, 2, 0, 0, -1, -1, -1, 0);
        Rows.cards("b", x, 1, 99, 0, 0, 1, 0, 1, 0);
        Rows.cards("c", x, 2, 0, 0, 1, -1, -1, -1, 0);
        x.tick(2);
        Rows.cards("b in", x, 1, 98, 1, 0, -1, -1, -1, 1);
        x.join(1, 1, 1);
        Rows.cards("b in line", x, 1, 98, 1, 0, 1, 1, 0, 1);
        x.tick(2);
        Rows.cards("b out", x, 1, 98, 0, 0, -1, -1, -1, 2);
        Due.refused(x, "card(-1, 0)", INDEX, () -> x.card(-1, 0));
        Due.refused(x, "card(3, 0)", INDEX, () -> x.card(3, 0));
        Due.refused(x, "card(12, 7)", INDEX, () -> x.card(12, 7));
        Due.refused(x, "card(0, -1)", ARGUMENT, () -> x.card(0, -1));
        Due.refused(x, "card(0, 7)", ARGUMENT, () -> x.card(0, 7));
    }

    private static void promise9_inLine() {
        GateRow x = Due.row("row 1 2;gate both;card a 2;card b 2;wait 0 in b;wait 0 in;wait 0 in a;");
        Rows.lines("line", x, 0, 0, 1, -1, 0);
        Due.refused(x, "inLine(1, 2, 9)", INDEX, () -> x.inLine(1, 2, 9));
        Due.refused(x, "inLine(-1, 0, 0)", INDEX, () -> x.inLine(-1, 0, 0));
        Due.refused(x, "inLine(0, 2, 9)", ARGUMENT, () -> x.inLine(0, 2, 9));
        Due.refused(x, "inLine(0, -1, 0)", ARGUMENT, () -> x.inLine(0, -1, 0));
        Due.refused(x, "inLine(0, 0, 3)", ELEMENT, () -> x.inLine(0, 0, 3));
        Due.refused(x, "inLine(0, 0, -1)", ELEMENT, () -> x.inLine(0, 0, -1));
        Due.refused(x, "inLine(0, 1, 0)", ELEMENT, () -> x.inLine(0, 1, 0));
        Due.refused(x, "inLine(0, 0, max)", ELEMENT, () -> x.inLine(0, 0, Integer.MAX_VALUE));
    }

    private static void promise10_why() {
        GateRow x = Due.row("row 1 2;gate in;card a 1;card b 0;card c 0;list c;wait 0 in a;");
        Due.equal("a in", x.why(0, 0), 0);
        Due.equal("a out", x.why(0, 1), 2);
        Due.equal("b in", x.why(1, 0), 3);
        Due.equal("b out", x.why(1, 1), 2);
        Due.equal("c in", x.why(2, 0), 1);
        Due.equal("c out", x.why(2, 1), 1);
        x.tick(2);
        Due.equal("a in, being inside", x.why(0, 0), 2);
        Due.equal("a out, being inside, without a trip", x.why(0, 1), 0);
        x.list(0, true);
        Due.equal("a in, listed", x.why(0, 0), 1);
        Due.refused(x, "why(3, 2)", INDEX, () -> x.why(3, 2));
        Due.refused(x, "why(-1, 0)", INDEX, () -> x.why(-1, 0));
        Due.refused(x, "why(0, 2)", ARGUMENT, () -> x.why(0, 2));
        Due.refused(x, "why(0, -1)", ARGUMENT, () -> x.why(0, -1));
    }

    private static void promise11_whyNotJoin() {
        GateRow x = Due.row("row 9 2;gate in;gate both;card a 9;card b 1;wait 1 in a;tick 2;wait 0 in b;");
        Due.equal("not served", x.whyNotJoin(0, 1, 1), 1);
        Due.equal("in a line", x.whyNotJoin(1, 0, 1), 3);
        Due.equal("in a line ahead of none inside", x.whyNotJoin(1, 1, 1), 3);
        Due.equal("one inside is free", x.whyNotJoin(1, 1, -1), 0);
        x.join(1, 1, -1);
        Due.equal("none inside is free", x.whyNotJoin(1, 1, -1), 4);
        Due.equal("the side 0 does not ask", x.whyNotJoin(1, 0, 0), 0);
        for (int n = 1; n < 10; n++) {
            Due.equal("place for another", x.whyNotJoin(0, 0, 0), 0);
            x.join(0, 0, -1);
        }
        Due.equal("full", x.whyNotJoin(0, 0, 1), 2);
        Due.refused(x, "no gate", INDEX, () -> x.whyNotJoin(2, 0, 0));
        Due.refused(x, "no gate, no side", INDEX, () -> x.whyNotJoin(-1, 3, 0));
        Due.refused(x, "no card", INDEX, () -> x.whyNotJoin(0, 0, 2));
        Due.refused(x, "no card, no side", INDEX, () -> x.whyNotJoin(0, 2, -2));
        Due.refused(x, "no side", ARGUMENT, () -> x.whyNotJoin(0, 2, -1));
        Due.refused(x, "no side", ARGUMENT, () -> x.whyNotJoin(0, -1, 0));
    }

    private static void promise12_bestGate() {
        GateRow x = Due.row("row 1 1;gate in;gate in;gate both;wait 0 in;wait 2 in;");
        Due.equal("shortest", x.bestGate(0), 1);
        Due.equal("the only one", x.bestGate(1), 2);
        x.join(1, 0, -1);
        Due.equal("smallest index", x.bestGate(0), 0);
        x.mode(0, 0);
        Due.refused(x, "bestGate(2)", ARGUMENT, () -> x.bestGate(2));
        Due.refused(x, "bestGate(-1)", ARGUMENT, () -> x.bestGate(-1));
        Due.equal("none", Due.row("row 1 1;gate in;").bestGate(1), -1);
        Due.equal("none", Due.row("row 1 1;gate out;").bestGate(0), -1);
        GateRow full = Due.row("row 1 1;gate in;");
        for (int n = 0; n < 10; n++) {
            full.join(0, 0, -1);
        }
        Due.equal("full", full.bestGate(0), 0);
    }

    private static void promise13_nextSide() {
        GateRow x = Due.row("row 1 1;gate in;gate out;gate both;card a 9;card b 9;");
        Due.equal("in", x.nextSide(0), 0);
        Due.equal("out", x.nextSide(1), 1);
        Due.equal("both, never open", x.nextSide(2), 0);
        x.join(2, 0, 0);
        x.tick(1);
        Due.equal("open for 0, longer", x.nextSide(2), 0);
        x.tick(1);
        Due.equal("after 0", x.nextSide(2), 1);
        x.join(2, 0, 1);
        Due.equal("longer 0", x.nextSide(2), 0);
        x.join(2, 1, 0);
        Due.equal("same length, after 0", x.nextSide(2), 1);
        x.tick(2);
        Due.equal("longer 0 again", x.nextSide(2), 0);
        x.leave(2, 0, 0);
        Due.equal("after 1", x.nextSide(2), 0);
        x.key(0);
        x.key(1);
        Due.equal("in a panic as without", x.nextSide(2), 0);
        Due.refused(x, "nextSide(3)", INDEX, () -> x.nextSide(3));
        Due.refused(x, "nextSide(-1)", INDEX, () -> x.nextSide(-1));
    }

    private static void promise14_throughIn() {
        GateRow x = Due.row("row 9 2;gate both;card a 9;card b 9;card c 0;card d 1;wait 0 in;wait 0 in a;wait 0 in c;wait 0 in b;");
        long before = x.checksum();
        Due.equal("a", x.throughIn(0), 2);
        // a opens at 1 and goes at 2, the paddles close at 10, c goes away at 11, b opens at 12.
        Due.equal("b", x.throughIn(1), 13);
        Due.equal("c goes away", x.throughIn(2), -1);
        Due.equal("d is in no line", x.throughIn(3), -1);
        Due.equal("nothing changed", x.checksum(), before);
        for (int n = 1; n < 13; n++) {
            x.tick(1);
            Due.equal("b after " + n, x.throughIn(1), 13 - n);
        }
        x.tick(1);
        Due.equal("b went", x.card(1, 6), 1);
        Due.equal("b is in no line", x.throughIn(1), -1);
        x.join(0, 1, 1);
        x.key(1);
        x.key(2);
        Due.equal("in a panic", x.throughIn(1), 1);
        x.join(0, 0, 3);
        Due.equal("not in by a panic", x.throughIn(3), -1);
        Due.refused(x, "throughIn(4)", INDEX, () -> x.throughIn(4));
        Due.refused(x, "throughIn(-1)", INDEX, () -> x.throughIn(-1));
    }

    /** With the 12 cards that there are, no line lasts for 200 ticks; ten turns are the most of one. */
    private static void promise14_throughInOfALongLine() {
        GateRow x = Due.row("row 9 1;gate in;card a 9;card b 9;card c 9;card d 9;card e 9;card f 9;card g 9;"
                + "card h 9;card i 9;card j 9;wait 0 in a;wait 0 in b;wait 0 in c;wait 0 in d;wait 0 in e;"
                + "wait 0 in f;wait 0 in g;wait 0 in h;wait 0 in i;wait 0 in j;");
        for (int c = 0; c < 10; c++) {
            Due.equal("card " + c, x.throughIn(c), 10 * c + 2);
        }
        x.tick(91);
        Due.equal("the last one", x.throughIn(9), 1);
        GateRow y = Due.row("row 1 1;gate both;card a 9;card b 9;wait 0 in a;tick 2;wait 0 in b;wait 0 in;wait 0 in;");
        y.join(0, 1, 0);
        Due.equal("b goes in first", y.throughIn(1), 2);
        Due.equal("stuck behind a longer line without a card", y.throughIn(0), -1);
    }

    private static void promise15_insideIn() {
        GateRow x = Due.row("row 2 2;gate both;card a 9;card b 9;wait 0 in a;wait 0 in;wait 0 in b;");
        long before = x.checksum();
        int[] wants = {0, 1, 2, 2, 3, 3, 3};
        for (int t = 1; t <= wants.length; t++) {
            Due.equal("insideIn(" + t + ")", x.insideIn(t), wants[t - 1]);
        }
        Due.equal("insideIn(200)", x.insideIn(200), 3);
        Due.equal("nothing changed", x.checksum(), before);
        Due.refused(x, "insideIn(0)", ARGUMENT, () -> x.insideIn(0));
        Due.refused(x, "insideIn(201)", ARGUMENT, () -> x.insideIn(201));
        Due.refused(x, "insideIn(-1)", ARGUMENT, () -> x.insideIn(-1));
        x.tick(5);
        x.join(0, 1, 0);
        x.list(0, true);
        x.tick(1);
        Due.equal("one goes away", x.insideIn(1), 2);
    }

    private static void promise16_followersIn() {
        GateRow x = Due.row("row 3 2;gate both;gate in;card a 9;card b 9;wait 0 in a;wait 0 in;wait 0 in;wait 0 in;wait 1 in b;wait 1 in;");
        int[] wants = {0, 0, 2, 3, 3, 3};
        for (int t = 1; t <= wants.length; t++) {
            Due.equal("followersIn(" + t + ")", x.followersIn(t), wants[t - 1]);
        }
        Due.equal("followersIn(200)", x.followersIn(200), 3);
        x.tick(3);
        Due.equal("two already", x.state(11), 2);
        Due.equal("those to come alone", x.followersIn(1), 1);
        Due.equal("nothing changed", x.state(4), 3);
        Due.refused(x, "followersIn(0)", ARGUMENT, () -> x.followersIn(0));
        Due.refused(x, "followersIn(201)", ARGUMENT, () -> x.followersIn(201));
        Due.refused(x, "followersIn(min)", ARGUMENT, () -> x.followersIn(Integer.MIN_VALUE));
    }

    private static void promise17_outInPanic() {
        for (int flow = 1; flow <= 4; flow++) {
            GateRow x = Due.row("row 9 " + flow + ";gate both;gate out;card a 9;"
                    + "wait 0 in a;wait 0 in;wait 0 in;wait 0 in;wait 0 in;wait 0 in;wait 0 in;wait 0 in;tick 9;");
            Due.equal("eight inside", x.state(5), 8);
            Due.equal("nobody waits", x.outInPanic(), 0);
            x.join(0, 1, -1);
            Due.equal("one waits", x.outInPanic(), 1);
            for (int n = 1; n <= 7; n++) {
                x.join(1, 1, -1);
                Due.equal(n + " wait, flow " + flow, x.outInPanic(), Math.max(1, (n + flow - 1) / flow));
            }
            int ticks = x.outInPanic();
            x.key(0);
            x.key(1);
            Due.equal("the same in the panic", x.outInPanic(), ticks);
            x.tick(ticks);
            Due.equal("nobody inside then", x.state(5), 0);
            Due.equal("nobody waits then", x.outInPanic(), 0);
        }
    }

    private static void promise18_ranked() {
        GateRow x = Due.row("row 1 1;gate in;gate both;gate out;gate in;wait 1 in;wait 3 in;wait 3 in;");
        int[] wants = {3, 1, 0, 2};
        for (int rank = 0; rank < wants.length; rank++) {
            Due.equal("ranked(" + rank + ")", x.ranked(rank), wants[rank]);
        }
        Due.refused(x, "ranked(4)", ELEMENT, () -> x.ranked(4));
        Due.refused(x, "ranked(-1)", ELEMENT, () -> x.ranked(-1));
        GateRow y = Due.row("row 1 1;gate both;gate both;card a 9;wait 1 in a;tick 2;wait 0 in;wait 1 out;wait 1 in;");
        Due.equal("both lines count", y.ranked(0), 1);
        GateRow z = new GateRow();
        Due.refused(z, "no gates", ELEMENT, () -> z.ranked(0));
    }

    private static void promise19_gap() {
        GateRow x = Due.row("row 2 2;gate both;card a 9;card b 9;wait 0 in a;wait 0 in;wait 0 in b;tick 5;");
        Due.equal("in", x.gap(), 0);
        x.list(0, true);
        x.join(0, 1, 0);
        x.tick(2);
        Due.equal("one went away inside", x.state(12), 1);
        Due.equal("gap", x.gap(), 0);
        x.tick(1);
        x.undo();
        Due.equal("gap after undo", x.gap(), 0);
        x.join(0, 1, 1);
        x.key(0);
        x.key(1);
        x.tick(1);
        Due.equal("panic", x.gap(), 0);
    }

    private static void promise20_followerShare() {
        GateRow x = Due.row("row 9 2;gate both;card a 9;wait 0 in;wait 0 in a;wait 0 in;");
        Due.equalFloat("nobody", x.followerShare(), 0f);
        x.tick(2);
        Due.equalFloat("none of 1", x.followerShare(), 0f);
        x.tick(1);
        Due.equalFloat("1 of 2", x.followerShare(), 0.5f);
        x.tick(1);
        Due.equalFloat("2 of 3", x.followerShare(), 2f / 3f);
        x.tick(6);
        x.join(0, 1, 0);
        x.tick(2);
        Due.equalFloat("2 of 4", x.followerShare(), 0.5f);
        Due.load(x, "row 9 2;");
        Due.equalFloat("since the load", x.followerShare(), 0f);
    }

    private static void promise21_join() {
        GateRow x = Due.row("row 9 2;gate in;gate both;card a 9;card b 1;wait 1 in a;tick 2;");
        Due.equal("not served", x.join(0, 1, -1), -1);
        Due.equal("first", x.join(0, 0, 1), 1);
        Due.equal("in a line", x.join(1, 0, 1), -3);
        for (int n = 2; n <= 10; n++) {
            Due.equal("place " + n, x.join(0, 0, -1), n);
        }
        Due.equal("full", x.join(0, 0, 0), -2);
        Due.equal("full ahead of in a line", x.join(0, 0, 1), -2);
        Due.equal("out, also the wrong card", x.join(1, 1, 0), 1);
        Due.equal("none inside is free", x.join(1, 1, -1), -4);
        Due.equal("refused ones", x.state(13), 5);
        Rows.lines("0 in", x, 0, 0, 1, -1, -1, -1, -1, -1, -1, -1, -1, -1);
        Rows.lines("1 out", x, 1, 1, 0);
        Due.refused(x, "no gate", INDEX, () -> x.join(2, 5, 9));
        Due.refused(x, "no gate", INDEX, () -> x.join(-1, 0, 0));
        Due.refused(x, "no card", INDEX, () -> x.join(0, 2, 2));
        Due.refused(x, "no card", INDEX, () -> x.join(0, 0, -2));
        Due.refused(x, "no side", ARGUMENT, () -> x.join(0, 2, -1));
        Due.refused(x, "no side", ARGUMENT, () -> x.join(0, -1, 0));
        GateRow y = Due.row("row 1 1;gate both;card a 1;card b 1;wait 0 in a;tick 2;");
        Due.equal("a card that is outside may wait inside", y.join(0, 1, 1), 1);
        Due.equal("but goes away", y.tick(2), 0);
        Due.equal("and one less is inside", y.state(5), 0);
    }

    private static void promise22_leave() {
        GateRow x = Due.row("row 9 2;gate both;card a 9;card b 9;wait 0 in;wait 0 in a;wait 0 in b;wait 0 in;");
        x.tick(1);
        Rows.lines("a in front", x, 0, 0, 0, -1, 1, -1);
        Due.refused(x, "a is due", STATE, () -> x.leave(0, 0, 0));
        Due.refused(x, "no gate", INDEX, () -> x.leave(1, 2, 0));
        Due.refused(x, "no gate", INDEX, () -> x.leave(-1, 0, 0));
        Due.refused(x, "no side", ARGUMENT, () -> x.leave(0, 2, 9));
        Due.refused(x, "no side", ARGUMENT, () -> x.leave(0, -1, 0));
        Due.refused(x, "no place", ELEMENT, () -> x.leave(0, 0, 4));
        Due.refused(x, "no place", ELEMENT, () -> x.leave(0, 0, -1));
        Due.refused(x, "no place", ELEMENT, () -> x.leave(0, 1, 0));
        Due.equal("b leaves", x.leave(0, 0, 2), 3);
        Rows.lines("the others", x, 0, 0, 0, -1, -1);
        Rows.cards("b stays outside", x, 1, 9, 0, 0, -1, -1, -1, 0);
        x.tick(1);
        Due.equal("nobody is due now", x.leave(0, 0, 0), 1);
        x.join(0, 1, 0);
        Due.equal("a leaves inside", x.leave(0, 1, 0), 0);
        Due.equal("and stays inside", x.state(5), 1);
        GateRow y = Due.row("row 9 2;gate both;card a 9;card b 9;wait 0 in a;tick 2;wait 0 out a;tick 9;wait 0 in b;");
        Due.equal("a is due on the side 1", y.gate(0, 3), 1);
        Due.equal("on the side 0 nobody is due", y.leave(0, 0, 0), 0);
        Due.refused(y, "but on 1", STATE, () -> y.leave(0, 1, 0));
    }

    private static void promise23_list() {
        GateRow x = Due.row("row 1 1;card a 1;card b 1;card c 1;list c;");
        Due.equal("a", x.list(0, true), 2);
        Due.equal("a again", x.list(0, true), 2);
        Due.equal("b off", x.list(1, false), 2);
        Due.equal("c off", x.list(2, false), 1);
        Rows.cards("a", x, 0, 1, 0, 1);
        Rows.cards("c", x, 2, 1, 0, 0);
        Due.refused(x, "list(3)", INDEX, () -> x.list(3, true));
        Due.refused(x, "list(-1)", INDEX, () -> x.list(-1, false));
    }

    private static void promise24_charge() {
        GateRow x = Due.row("row 1 1;card a 0;card b 50;");
        Due.equal("a", x.charge(0, 99), 99);
        Due.refused(x, "a is full", STATE, () -> x.charge(0, 1));
        Due.refused(x, "b too many", STATE, () -> x.charge(1, 50));
        Due.equal("b", x.charge(1, 48), 98);
        Due.equal("b", x.charge(1, 1), 99);
        Due.refused(x, "no card", INDEX, () -> x.charge(2, 0));
        Due.refused(x, "no card", INDEX, () -> x.charge(-1, 1));
        Due.refused(x, "0", ARGUMENT, () -> x.charge(0, 0));
        Due.refused(x, "100 of a full one", ARGUMENT, () -> x.charge(0, 100));
        Due.refused(x, "max", ARGUMENT, () -> x.charge(0, Integer.MAX_VALUE));
        Due.refused(x, "-1", ARGUMENT, () -> x.charge(0, -1));
    }

    private static void promise25_mode() {
        GateRow x = Due.row("row 1 1;gate in;card a 9;wait 0 in a;");
        Due.refused(x, "a would not be served", STATE, () -> x.mode(0, 1));
        Due.equal("to both", x.mode(0, 2), 0);
        Due.equal("to in", x.mode(0, 0), 2);
        Due.equal("to in again", x.mode(0, 0), 0);
        x.tick(1);
        Due.refused(x, "open", STATE, () -> x.mode(0, 0));
        x.tick(1);
        Due.equal("to out", x.mode(0, 1), 0);
        x.join(0, 1, 0);
        Due.refused(x, "nor out of in", STATE, () -> x.mode(0, 0));
        Due.refused(x, "no gate", INDEX, () -> x.mode(1, 9));
        Due.refused(x, "no gate", INDEX, () -> x.mode(-1, 0));
        Due.refused(x, "no mode", ARGUMENT, () -> x.mode(0, 3));
        Due.refused(x, "no mode", ARGUMENT, () -> x.mode(0, -1));
        Due.equal("its last side stays", x.gate(0, 8), 0);
    }

    private static void promise26_key() {
        GateRow x = new GateRow();
        Due.equal("0", x.key(0), 1);
        Rows.states("one", x, 0, 0, 3, 2, 0, 0, 0, 0, 1);
        Due.equal("2", x.key(2), 2);
        Rows.states("two", x, 0, 0, 3, 2, 0, 0, 0, 1, 2);
        Due.equal("1", x.key(1), 3);
        Rows.states("three", x, 0, 0, 3, 2, 0, 0, 0, 1, 3);
        Due.equal("0 back", x.key(0), 2);
        Rows.states("two", x, 0, 0, 3, 2, 0, 0, 0, 1, 2);
        Due.equal("2 back", x.key(2), 1);
        Rows.states("one", x, 0, 0, 3, 2, 0, 0, 0, 0, 1);
        Due.refused(x, "key(3)", ARGUMENT, () -> x.key(3));
        Due.refused(x, "key(-1)", ARGUMENT, () -> x.key(-1));
        Due.refused(x, "key(32)", ARGUMENT, () -> x.key(32));
    }

    private static void promise26_keyInPanic() {
        GateRow x = Due.row("row 9 3;gate both;gate both;card a 9;card b 9;wait 0 in a;wait 0 in;tick 2;wait 1 in b;tick 1;");
        Rows.gates("open", x, 0, 2, 7, 0, 0, 0, 0, 1, 1, 0);
        Rows.gates("due", x, 1, 2, 9, 0, 1, 1, 0, 0, 1, 0);
        x.key(1);
        Rows.gates("one key does nothing", x, 1, 2, 9, 0, 1, 1, 0, 0, 1, 0);
        x.key(2);
        Rows.gates("closed", x, 0, 2, 0, -1, 0, 0, 0, 1, 1, 0);
        Rows.gates("nobody due", x, 1, 2, 0, -1, 0, 1, 0, 0, 1, 0);
        Due.equal("who was due may leave", x.leave(1, 0, 0), 0);
        x.join(1, 0, 1);
        Due.equal("nobody goes in", x.tick(5), 0);
        x.key(1);
        Due.equal("the panic is over", x.tick(2), 1);
        Due.equal("b is in", x.card(1, 1), 1);
    }

    private static void promise27_tick() {
        GateRow x = Due.row("row 2 2;gate both;card a 9;card b 9;wait 0 in a;wait 0 in;wait 0 in b;");
        Due.equal("opens", x.tick(1), 0);
        Due.equal("a and a follower", x.tick(2), 2);
        Due.equal("b", x.tick(99), 1);
        Due.equal("ticks", x.state(4), 102);
        Due.refused(x, "tick(0)", ARGUMENT, () -> x.tick(0));
        Due.refused(x, "tick(100)", ARGUMENT, () -> x.tick(100));
        Due.refused(x, "tick(-1)", ARGUMENT, () -> x.tick(-1));
        x.join(0, 1, 0);
        x.join(0, 1, -1);
        x.join(0, 1, 1);
        x.key(0);
        x.key(1);
        Due.equal("as many as flow tells", x.tick(1), 2);
        Rows.lines("b is left", x, 0, 1, 1);
        Due.equal("in a panic there are no followers", x.state(11), 1);
        Due.equal("nor alarms", x.gate(0, 6), 1);
        x.list(1, true);
        Due.equal("nothing else is asked", x.tick(1), 1);
        Rows.cards("b", x, 1, 8, 0, 1, -1, -1, -1, 2);
    }

    private static void promise27_followersOfBothSides() {
        GateRow x = Due.row("row 3 2;gate both;card a 9;card b 9;wait 0 in a;wait 0 in;wait 0 in;tick 9;");
        Due.equal("two followed a in", x.state(11), 2);
        x.join(0, 1, -1);
        x.join(0, 1, 0);
        x.join(0, 1, -1);
        Due.equal("a comes to the front and is followed twice", x.tick(4), 3);
        Rows.states("out", x, 1, 2, 3, 2, 13, 0, 0, 0, 0, 3, 3, 4, 0, 0, 0, 0);
        Due.equal("alarms", x.gate(0, 6), 4);
        Rows.cards("out costs no trip", x, 0, 8, 0, 0, -1, -1, -1, 2);
        x.join(0, 0, 0);
        x.join(0, 0, 1);
        x.join(0, 0, -1);
        Due.equal("a alone", x.tick(4), 1);
        Rows.lines("who has a card does not follow", x, 0, 0, 1, -1);
        GateRow y = Due.row("row 1 1;gate in;wait 0 in;tick 50;");
        Due.equal("without a card nobody opens", y.gate(0, 7), 0);
        Due.equal("nor goes away", y.gate(0, 4), 1);
    }

    private static void promise27_tickSendsAway() {
        GateRow x = Due.row("row 1 1;gate in;card a 0;card b 5;card c 5;list b;wait 0 in;wait 0 in b;wait 0 in a;wait 0 in c;");
        x.tick(1);
        Rows.lines("b went away", x, 0, 0, -1, 0, 2);
        x.tick(1);
        Rows.lines("a went away", x, 0, 0, -1, 2);
        Due.equal("two", x.state(12), 2);
        Rows.cards("a", x, 0, 0, 0, 0, -1, -1, -1, 0);
        x.tick(1);
        Rows.lines("c comes to the front", x, 0, 0, 2, -1);
        x.list(2, true);
        Due.equal("who is due goes, listed or not", x.tick(1), 1);
        Rows.cards("c", x, 2, 4, 1, 1, -1, -1, -1, 1);
        x.mode(0, 2);
        x.leave(0, 0, 0);
        x.join(0, 1, 2);
        x.tick(1);
        Rows.states("c went away inside", x, 1, 3, 1, 1, 5, 0, 0, 0, 0, 1, 0, 0, 3, 0, 0, 0);
        Rows.cards("its card stays as it is", x, 2, 4, 1, 1, -1, -1, -1, 1);
    }

    private static void promise27_tickChoosesSide() {
        GateRow x = Due.row("row 1 1;gate both;card a 9;card b 9;wait 0 in a;tick 2;wait 0 in b;");
        x.join(0, 1, 0);
        x.tick(1);
        Due.equal("same length, open for 0 last: now 1", x.gate(0, 2), 1);
        x.tick(1);
        x.join(0, 0, 0);
        x.tick(1);
        Due.equal("0 is longer", x.gate(0, 2), 0);
        GateRow y = Due.row("row 1 1;gate both;card a 9;card b 9;wait 0 in a;tick 2;wait 0 in;wait 0 in;");
        y.join(0, 1, 0);
        y.tick(9);
        Due.equal("the longer line has no card: nothing is done", y.gate(0, 7), 1);
    }

    private static void promise28_undo() {
        GateRow x = new GateRow();
        long[] sums = new long[12];
        for (int n = 0; n < 12; n++) {
            sums[n] = x.checksum();
            x.tick(n + 1);
        }
        for (int n = 7; n >= 0; n--) {
            Due.equal("undo, " + n + " left", x.undo(), n);
            Due.equal("as it was", x.checksum(), sums[4 + n]);
        }
        Due.equal("none left", x.undo(), -1);
        Due.equal("nothing changes then", x.checksum(), sums[4]);
        x.tick(1);
        x.tick(1);
        Due.equal("undo", x.undo(), 1);
        x.tick(2);
        x.tick(3);
        Due.equal("undo", x.undo(), 2);
        Due.equal("undo", x.undo(), 1);
        Due.equal("undo", x.undo(), 0);
        Due.equal("undo", x.undo(), -1);
        Due.equal("as it was", x.checksum(), sums[4]);
    }

    private static void promise28_undoOfEveryChange() {
        GateRow x = new GateRow();
        long empty = x.checksum();
        Due.load(x, "row 2 2;gate both;card a 9;card b 9;wait 0 in a;wait 0 in;wait 0 in b;tick 3;");
        Runnable[] changes = {() -> x.join(0, 0, 0), () -> x.join(0, 0, 0), () -> x.leave(0, 0, 0),
            () -> x.list(1, true), () -> x.charge(1, 90), () -> x.tick(1), () -> x.key(0), () -> x.key(1),
            () -> x.mode(0, 0), () -> x.list(0, false), () -> Due.load(x, "row 1 1;gate in;")};
        for (int n = 0; n < changes.length; n++) {
            long before = x.checksum();
            changes[n].run();
            Due.equal("undo of change " + n, x.undo(), Math.min(n + 1, 7));
            Due.equal("change " + n + " is undone", x.checksum(), before);
            changes[n].run();
        }
        Due.load(x, "no");
        Due.thrown("no change", ARGUMENT, () -> x.tick(0));
        Due.equal("wrong calls are no changes", x.undo(), 7);
        GateRow y = new GateRow();
        Due.load(y, "row 1 1;gate in;");
        Due.buffer(y, "row 1 1;");
        Due.equal("undo of the load", y.undo(), 0);
        Due.equal("as new", y.checksum(), empty);
        Due.equal("the buffer is not affected", y.load(8), 0);
    }

    private static void promise29_checksum() {
        long sum = 0;
        for (int n : new int[] {0, 0, 3, 2, 0, 0, 0, 0, 0, 0, 0, 0, 0, 0, 0, 0}) {
            sum = 31 * sum + n;
        }
        Due.equal("new", new GateRow().checksum(), sum);
        GateRow x = Due.row("row 1 1;gate in;gate both;card a 9;card b 9;card c 9;"
                + "wait 1 in a;tick 2;wait 1 in c;wait 1 in;wait 1 out a;wait 0 in b;tick 1;list b;");
        int[] all = {2, 3, 1, 1, 3, 1, 4, 0, 0, 1, 0, 0, 0, 0, 0, 2,
            0, 1, 0, 1, 1, 0, 0, 1, 0, 1,
            2, 1, 0, 1, 2, 1, 0, 2, 0, 2, -1, 0,
            8, 1, 0, 1, 1, 0, 1,
            9, 0, 1, 0, 0, 0, 0,
            9, 0, 0, 1, 0, 0, 0};
        sum = 0;
        for (int n : all) {
            sum = 31 * sum + n;
        }
        Due.equal("all in order", x.checksum(), sum);
        Due.equal("asking changes nothing", x.checksum(), sum);
    }
}
