import java.io.IOException;
import java.util.NoSuchElementException;

/** A test for each sentence that names a boundary case: promises 5 to 20, which ask without a change. */
public final class EdgesOfAnswersTests {
    private static final Class<IllegalArgumentException> ARGUMENT = IllegalArgumentException.class;
    private static final Class<IndexOutOfBoundsException> INDEX = IndexOutOfBoundsException.class;
    private static final Class<NoSuchElementException> ELEMENT = NoSuchElementException.class;
    private static final int NONE = GateRow.NONE;
    private static final int MIN = Rows.MIN;
    private static final int MAX = Rows.MAX;

    public static void main(String[] args) throws IOException {
        Promises.runQuoting(EdgesOfAnswersTests.class, 5, 20);
        Due.end("EdgesOfAnswersTests");
    }

    private static GateRow panic(GateRow x) {
        x.key(0);
        x.key(2);
        return x;
    }

    // Promise 5: state

    @Says("if what is out of range")
    private static void promise5_whatBelow0AndAbove15() {
        GateRow none = new GateRow();
        Rows.refuseAll(none, "state", ARGUMENT, none::state, -1, 16, 17, MIN, MAX);
        GateRow x = Due.row("row 3 2;gate in;card a 1;wait 0 in a;tick 1;");
        Rows.refuseAll(x, "state", ARGUMENT, x::state, -1, 16, 17, MIN, MAX);
        Due.equal("0, the least", x.state(0), 1);
        Due.equal("15, the most", x.state(15), 1);
    }

    @Says("Ticks are counted, 0 at first.")
    private static void promise5_ticksAre0AtFirst() {
        GateRow x = Due.row("row 3 2;gate in;");
        Due.equal("first", x.state(4), 0);
        x.tick(1);
        Due.equal("1", x.state(4), 1);
        x.tick(99);
        Due.equal("100", x.state(4), 100);
    }

    @Says("There are people inside, 0 at first: those of the lines on the side 1 are among them.")
    private static void promise5_people0InsideAtFirst() {
        GateRow x = Due.row("row 3 2;gate both;card a 1;wait 0 in a;");
        Due.equal("first", x.state(5), 0);
        x.tick(2);
        Due.equal("a", x.state(5), 1);
        x.join(0, 1, 0);
        Due.equal("a in the line is one of them", x.state(5), 1);
    }

    @Says("6 people in all lines")
    private static void promise5_noneAnd120PeopleInAllLines() {
        Due.equal("no gate", new GateRow().state(6), 0);
        Due.equal("empty lines", Due.row("row 3 2;gate both;").state(6), 0);
        Due.equal("full lines", Rows.full().state(6), 120);
    }

    @Says({"7 1 in a panic, otherwise 0, 8 keys that are turned",
        "It is a panic as long as two or three of them are turned."})
    private static void promise5_keysFrom0To3() {
        GateRow x = new GateRow();
        int[] panics = {0, 0, 1, 1};
        for (int keys = 0; keys <= 3; keys++) {
            Due.equal("in a panic by " + keys, x.state(7), panics[keys]);
            Due.equal("turned", x.state(8), keys);
            if (keys < 3) {
                x.key(keys);
            }
        }
    }

    @Says("9 people who went in since the latest load (also by its text; likewise the following ones)")
    private static void promise5_countedByTheTextAndFromTheLoadOn() {
        String text = "row 2 1;gate both;gate in;card a 9;card b 9;wait 0 in a;wait 0 in;wait 1 in b;tick 3;"
                + "list b;wait 0 out a;wait 0 out b;tick 1;key 0;key 1;tick 1;";
        GateRow x = Due.row(text);
        Rows.states("by the text", x, 2, 2, 2, 1, 5, 2, 1, 1, 2, 3, 1, 1, 0, 0, 1, 0);
        x.join(0, 0, 1);
        Due.equal("refused by join", x.state(13), 1);
        x.key(0);
        x.tick(1);
        Due.equal("b went away", x.state(12), 1);
        Due.load(x, "row 2 1;gate both;");
        Rows.states("all from 0 on", x, 1, 0, 2, 1, 0, 0, 0, 0, 0, 0, 0, 0, 0, 0, 0, 0);
    }

    @Says("11 followers (they are among these)")
    private static void promise5_followersAreAmongThoseWhoWent() {
        GateRow x = Rows.inside(1, 1);
        Due.equal("in", x.state(9), 18);
        Due.equal("followers", x.state(11), 16);
        x.join(0, 1, 0);
        Rows.fill(x, 0, 1, 8);
        x.tick(10);
        Due.equal("in", x.state(9), 18);
        Due.equal("out", x.state(10), 9);
        Due.equal("followers of both sides", x.state(11), 24);
    }

    @Says("13 people who were refused by join")
    private static void promise5_askingWhyNotDoesNotCount() {
        GateRow x = Due.row("row 3 2;gate in;");
        x.whyNotJoin(0, 1, NONE);
        Due.equal("asked", x.state(13), 0);
        x.join(0, 1, NONE);
        Due.equal("refused", x.state(13), 1);
        Due.thrown("no gate", INDEX, () -> x.join(1, 0, NONE));
        x.join(0, 0, NONE);
        Due.equal("neither who comes nor what throws", x.state(13), 1);
        Due.load(x, "row 3 2;gate in;wait 0 out;");
        Due.equal("nor a text that is refused", x.state(13), 1);
    }

    @Says("14 people who went out in a panic")
    private static void promise5_outInAPanicAlone() {
        GateRow x = Rows.inside(1, 4);
        Rows.fill(x, 0, 1, 2);
        x.join(0, 1, 0);
        x.tick(2);
        Due.equal("out, by the paddles", x.state(14), 0);
        panic(x);
        x.tick(1);
        Due.equal("out, in the panic", x.state(14), 2);
        Due.equal("out, both", x.state(10), 3);
    }

    @Says("15 gates whose paddles are open")
    private static void promise5_noGateAndAll6Open() {
        GateRow x = Due.row("row 1 2;gate in;gate in;gate in;gate in;gate in;gate in;"
                + "card a 1;card b 1;card c 1;card d 1;card e 1;card f 1;");
        Due.equal("none", x.state(15), 0);
        for (int g = 0; g < 6; g++) {
            x.join(g, 0, g);
        }
        Due.equal("none yet", x.state(15), 0);
        x.tick(1);
        Due.equal("all", x.state(15), 6);
        x.tick(1);
        Due.equal("none any more", x.state(15), 0);
    }

    // Promise 6: find

    @Says("@throws IllegalArgumentException if length is negative or greater than the length of the buffer")
    private static void promise6_aLengthBelow0AndAboveThatOfTheBuffer() {
        GateRow x = Due.row("row 3 2;card a 1;");
        Rows.refuseAll(x, "find in an empty buffer", ARGUMENT, x::find, -1, 1, 20, MIN, MAX);
        Due.buffer(x, "a");
        Rows.refuseAll(x, "find", ARGUMENT, x::find, -1, 21, 40, MIN, MAX);
        Due.equal("all bytes", x.find(20), -1);
        GateRow y = new GateRow();
        Due.buffer(y, "a".repeat(500));
        Due.refused(y, "more than a full buffer", ARGUMENT, () -> y.find(501));
        Due.equal("a full buffer", y.find(500), -1);
    }

    @Says("-1 if there is none")
    private static void promise6_noSuchName() {
        GateRow x = Due.row("row 3 2;card a 1;card b 1;card abcdef 1;");
        Due.equal("the empty name in an empty buffer", x.find(0), -1);
        Due.buffer(x, "abcdefg");
        Due.equal("the empty name", x.find(0), -1);
        int[] wants = {0, -1, -1, -1, -1, 2, -1, -1};
        for (int length = 1; length <= 8; length++) {
            Due.equal("find(" + length + ")", x.find(length), wants[length - 1]);
        }
        GateRow none = new GateRow();
        Due.buffer(none, "a");
        Due.equal("no cards", none.find(1), -1);
        Due.equal("no cards", none.find(0), -1);
    }

    @Says("-1 if there is none")
    private static void promise6_bytesThatNoNameHas() {
        for (int b = 0; b < 256; b++) {
            GateRow x = Due.row("row 3 2;card a 1;card aa 1;card z 1;");
            Due.buffer(x, (char) b + "a");
            boolean isA = b == 'a';
            Due.equal("the byte " + b, x.find(1), isA ? 0 : b == 'z' ? 2 : -1);
            Due.equal("the byte " + b + " and a", x.find(2), isA ? 1 : -1);
        }
    }

    @Says("-1 if there is none")
    private static void promise6_longNamesThatWrapAroundToShortOnes() {
        GateRow x = Due.row("row 3 2;card a 1;card b 1;card zzzzzz 1;");
        String[] names = {"kbhsymw", "zzzzzzz", "azzzzzz", "aaaaaaa", "zzzzzza", "azzzzzzzzzzzzzzzzz"};
        for (String name : names) {
            x.load(0);
            Due.buffer(x, name);
            Due.equal(name, x.find(name.length()), -1);
        }
    }

    @Says("the first bytes of the input buffer (which stays)")
    private static void promise6_theBufferStays() {
        GateRow x = Due.row("row 3 2;card row 1;");
        Due.buffer(x, "row 1 1;");
        Due.equal("once", x.find(3), 0);
        Due.equal("and again", x.find(3), 0);
        Due.equal("it can be loaded yet", x.load(8), 0);
        Due.equal("hold", x.state(2), 1);
    }

    // Promise 7: gate

    @Says({"if there is no such gate",
        "IndexOutOfBoundsException is thrown if a parameter named gate or card is not the index of such a thing"})
    private static void promise7_noSuchGate() {
        GateRow none = new GateRow();
        Rows.noIndex(none, 0, g -> none.gate(g, 0));
        GateRow x = Due.row("row 3 2;gate in;gate out;");
        Rows.noIndex(x, 2, g -> x.gate(g, 0));
        Due.equal("the last one", x.gate(1, 0), 1);
        GateRow six = Rows.full();
        Rows.noIndex(six, 6, g -> six.gate(g, 0));
        Due.equal("the sixth one", six.gate(5, 0), 2);
    }

    @Says("if what is out of range")
    private static void promise7_whatBelow0AndAbove8() {
        GateRow x = Due.row("row 3 2;gate out;");
        Rows.refuseAll(x, "gate(0, ..)", ARGUMENT, what -> x.gate(0, what), -1, 9, 10, MIN, MAX);
        Due.equal("0, the least", x.gate(0, 0), 1);
        Due.equal("8, the most", x.gate(0, 8), -1);
    }

    @Says("If several exceptions apply to a call, the one that is listed first with the method is thrown.")
    private static void promise7_theGateIsAskedFirst() {
        GateRow x = Due.row("row 3 2;gate out;");
        Due.refused(x, "gate(1, 9)", INDEX, () -> x.gate(1, 9));
        Due.refused(x, "gate(-1, -1)", INDEX, () -> x.gate(-1, -1));
    }

    @Says("Gates and cards have indexes from 0 in the order in which they were told.")
    private static void promise7_indexesFrom0() {
        GateRow x = Due.row("row 3 2;gate out;gate both;gate in;");
        Rows.gates("first", x, 0, 1);
        Rows.gates("second", x, 1, 2);
        Rows.gates("third", x, 2, 0);
    }

    @Says({"1 ticks for which its paddles are open yet, 2 the side for which they are open (-1 if they are closed)",
        "3 1 if somebody is due, otherwise 0", "Then the paddles are open for 1 tick less; if that is none, they are closed."})
    private static void promise7_openFromTheFirstToTheLastTick() {
        for (int hold = 1; hold <= 9; hold++) {
            GateRow x = Due.row("row " + hold + " 2;gate in;card a 1;wait 0 in a;");
            Rows.gates("closed", x, 0, 0, 0, -1, 0);
            for (int left = hold; left > 0; left--) {
                x.tick(1);
                Rows.gates("open", x, 0, 0, left, 0, left == hold ? 1 : 0);
            }
            x.tick(1);
            Rows.gates("closed again", x, 0, 0, 0, -1, 0);
        }
    }

    @Says("4 people in the line of the side 0, 5 people in that of the side 1")
    private static void promise7_emptyAndFullLines() {
        GateRow x = Rows.inside(1, 1);
        Rows.gates("empty", x, 0, 2, 0, -1, 0, 0, 0);
        Rows.fill(x, 0, 1, 10);
        Rows.gates("full on the side 1", x, 0, 2, 0, -1, 0, 0, 10);
        Rows.fill(x, 0, 0, 9);
        Rows.gates("nearly full on the side 0", x, 0, 2, 0, -1, 0, 9, 10);
        Rows.fill(x, 0, 0, 1);
        Rows.gates("full on both sides", x, 0, 2, 0, -1, 0, 10, 10);
    }

    @Says("6 its alarms since the latest load, 7 how often its paddles opened since then")
    private static void promise7_countedFromTheLoadOn() {
        GateRow x = Rows.inside(2, 1);
        Rows.gates("gate 0", x, 0, 2, 0, -1, 0, 0, 0, 16, 2, 0);
        Rows.gates("gate 1", x, 1, 2, 0, -1, 0, 0, 0, 16, 2, 0);
        Due.load(x, "row 9 1;gate both;gate both;");
        Rows.gates("gate 0", x, 0, 2, 0, -1, 0, 0, 0, 0, 0, -1);
        Rows.gates("gate 1", x, 1, 2, 0, -1, 0, 0, 0, 0, 0, -1);
    }

    @Says("8 the side for which they opened last (-1 if they did not)")
    private static void promise7_theSideOpenedLast() {
        GateRow x = Due.row("row 1 2;gate both;card a 1;wait 0 in;tick 9;");
        Due.equal("not yet", x.gate(0, 8), -1);
        x.join(0, 0, 0);
        x.tick(2);
        Due.equal("0, though closed", x.gate(0, 8), 0);
        x.leave(0, 0, 0);
        x.join(0, 1, 0);
        x.tick(1);
        Due.equal("1, being open", x.gate(0, 8), 1);
    }

    // Promise 8: card

    @Says({"if there is no such card",
        "IndexOutOfBoundsException is thrown if a parameter named gate or card is not the index of such a thing"})
    private static void promise8_noSuchCard() {
        GateRow none = Due.row("row 3 2;gate in;");
        Rows.noIndex(none, 0, c -> none.card(c, 0));
        GateRow x = Due.row("row 3 2;card a 4;card b 5;");
        Rows.noIndex(x, 2, c -> x.card(c, 0));
        Due.equal("the last one", x.card(1, 0), 5);
        GateRow twelve = Rows.full();
        Rows.noIndex(twelve, 12, c -> twelve.card(c, 0));
        Due.equal("the twelfth one", twelve.card(11, 0), 8);
    }

    @Says("if what is out of range")
    private static void promise8_whatBelow0AndAbove6() {
        GateRow x = Due.row("row 3 2;gate both;card a 9;wait 0 in a;tick 2;");
        Rows.refuseAll(x, "card(0, ..)", ARGUMENT, what -> x.card(0, what), -1, 7, 8, MIN, MAX);
        Due.equal("0, the least", x.card(0, 0), 8);
        Due.equal("6, the most", x.card(0, 6), 1);
    }

    @Says("If several exceptions apply to a call, the one that is listed first with the method is thrown.")
    private static void promise8_theCardIsAskedFirst() {
        GateRow x = Due.row("row 3 2;card a 9;");
        Due.refused(x, "card(1, 7)", INDEX, () -> x.card(1, 7));
        Due.refused(x, "card(-1, -1)", INDEX, () -> x.card(-1, -1));
    }

    @Says({"a card is outside, or inside (outside at first); and it may be on the list (not at first)",
        "Gates and cards have indexes from 0 in the order in which they were told."})
    private static void promise8_outsideAndNotListedAtFirst() {
        GateRow x = Due.row("row 3 2;card b 0;card a 99;");
        Rows.cards("b, told first", x, 0, 0, 0, 0, -1, -1, -1, 0);
        Rows.cards("a", x, 1, 99, 0, 0, -1, -1, -1, 0);
    }

    @Says("0 its trips, 1 1 if it is inside, otherwise 0, 2 1 if it is on the list, otherwise 0")
    private static void promise8_insideOrNotAndListedOrNot() {
        GateRow x = Due.row("row 1 1;gate both;card a 99;card b 0;list b;wait 0 in a;tick 2;");
        Rows.cards("a inside", x, 0, 98, 1, 0);
        Rows.cards("b listed", x, 1, 0, 0, 1);
        x.list(0, true);
        x.list(1, false);
        Rows.cards("a inside and listed", x, 0, 98, 1, 1);
        Rows.cards("b neither", x, 1, 0, 0, 0);
    }

    @Says("3 the gate in whose line it is (-1 if in none), 4 the side of that line (-1), 5 its place there, from 0 (-1)")
    private static void promise8_theFirstAndTheLastPlaceOfALine() {
        GateRow x = Rows.inside(2, 1);
        Rows.cards("a in no line", x, 0, 8, 1, 0, -1, -1, -1, 1);
        x.join(0, 0, 4);
        Rows.cards("at the first place of the first line", x, 4, 9, 0, 0, 0, 0, 0, 0);
        Rows.fill(x, 1, 1, 9);
        x.join(1, 1, 0);
        Rows.cards("at the last place of the last line", x, 0, 8, 1, 0, 1, 1, 9, 1);
        x.leave(1, 1, 0);
        Rows.cards("one place ahead", x, 0, 8, 1, 0, 1, 1, 8, 1);
        x.leave(1, 1, 8);
        Rows.cards("in no line any more", x, 0, 8, 1, 0, -1, -1, -1, 1);
    }

    @Says("6 how often it went through a gate since the latest load")
    private static void promise8_throughAGateAlsoInAPanic() {
        GateRow x = Due.row("row 1 1;gate both;card a 1;wait 0 in a;");
        Due.equal("not yet", x.card(0, 6), 0);
        x.tick(2);
        Due.equal("in", x.card(0, 6), 1);
        x.join(0, 1, 0);
        panic(x);
        x.tick(1);
        Rows.cards("out", x, 0, 0, 0, 0, -1, -1, -1, 2);
        Due.load(x, "row 1 1;gate both;card a 1;");
        Due.equal("from 0 on", x.card(0, 6), 0);
    }

    // Promise 9: inLine

    @Says({"@throws IndexOutOfBoundsException if there is no such gate",
        "IndexOutOfBoundsException is thrown if a parameter named gate or card is not the index of such a thing"})
    private static void promise9_noSuchGate() {
        GateRow none = new GateRow();
        Rows.noIndex(none, 0, g -> none.inLine(g, 0, 0));
        GateRow x = Rows.full();
        Rows.noIndex(x, 6, g -> x.inLine(g, 1, 0));
        Due.equal("the last one", x.inLine(5, 1, 0), -1);
    }

    @Says({"@throws IllegalArgumentException if side is not 0 or 1",
        "IllegalArgumentException if side is not 0 or 1."})
    private static void promise9_noSuchSide() {
        GateRow x = Due.row("row 3 2;gate both;wait 0 in;");
        Rows.noSide(x, side -> x.inLine(0, side, 0));
    }

    @Says("@throws NoSuchElementException if there is no such place")
    private static void promise9_noSuchPlace() {
        GateRow x = Due.row("row 3 2;gate both;card a 1;wait 0 in a;wait 0 in;");
        Rows.refuseAll(x, "a line of two", ELEMENT, p -> x.inLine(0, 0, p), -1, 2, 9, 10, MIN, MAX);
        Rows.refuseAll(x, "an empty line", ELEMENT, p -> x.inLine(0, 1, p), -1, 0, 1, 10, MIN, MAX);
        GateRow full = Rows.full();
        Rows.refuseAll(full, "a full line", ELEMENT, p -> full.inLine(5, 1, p), -1, 10, 11, MIN, MAX);
    }

    @Says("If several exceptions apply to a call, the one that is listed first with the method is thrown.")
    private static void promise9_theGateThenTheSideThenThePlace() {
        GateRow x = Due.row("row 3 2;gate both;");
        Due.refused(x, "no gate, no side, no place", INDEX, () -> x.inLine(1, 2, 9));
        Due.refused(x, "no gate, no place", INDEX, () -> x.inLine(-1, 0, 9));
        Due.refused(x, "no side, no place", ARGUMENT, () -> x.inLine(0, 2, 9));
    }

    @Says({"-1 if they have none", "from 0, the first one ahead"})
    private static void promise9_theFirstAndTheLastPlaceOfAFullLine() {
        GateRow x = Due.row("row 3 2;gate both;card a 1;card b 1;wait 0 in b;");
        Rows.fill(x, 0, 0, 8);
        x.join(0, 0, 0);
        Rows.lines("ten", x, 0, 0, 1, -1, -1, -1, -1, -1, -1, -1, -1, 0);
    }

    // Promise 10: why

    @Says({"@throws IndexOutOfBoundsException if there is no such card",
        "IndexOutOfBoundsException is thrown if a parameter named gate or card is not the index of such a thing"})
    private static void promise10_noSuchCard() {
        GateRow none = Due.row("row 3 2;gate in;");
        Rows.noIndex(none, 0, c -> none.why(c, 0));
        GateRow x = Rows.full();
        Rows.noIndex(x, 12, c -> x.why(c, 1));
    }

    @Says({"@throws IllegalArgumentException if side is not 0 or 1",
        "IllegalArgumentException if side is not 0 or 1."})
    private static void promise10_noSuchSide() {
        GateRow x = Due.row("row 3 2;card a 1;");
        Rows.noSide(x, side -> x.why(0, side));
    }

    @Says("If several exceptions apply to a call, the one that is listed first with the method is thrown.")
    private static void promise10_theCardIsAskedFirst() {
        GateRow x = Due.row("row 3 2;card a 1;");
        Due.refused(x, "why(1, 2)", INDEX, () -> x.why(1, 2));
        Due.refused(x, "why(-1, -1)", INDEX, () -> x.why(-1, -1));
    }

    @Says({"0 if for no reason", "3 it has no trip (for the side 0 alone)"})
    private static void promise10_noTripAndOneTrip() {
        GateRow x = Due.row("row 1 1;gate both;card a 0;card b 1;wait 0 in b;");
        Due.equal("no trip", x.why(0, 0), 3);
        Due.equal("one trip", x.why(1, 0), 0);
        x.tick(2);
        Due.equal("no trip, but on the side 1", x.why(1, 1), 0);
        x.charge(0, 1);
        Due.equal("one trip more", x.why(0, 0), 0);
    }

    @Says("2 it is on the other side (inside for the side 0, outside for the side 1)")
    private static void promise10_onTheOtherSide() {
        GateRow x = Due.row("row 1 1;gate both;card a 9;card b 9;wait 0 in a;tick 2;");
        Due.equal("inside, for the side 0", x.why(0, 0), 2);
        Due.equal("inside, for the side 1", x.why(0, 1), 0);
        Due.equal("outside, for the side 0", x.why(1, 0), 0);
        Due.equal("outside, for the side 1", x.why(1, 1), 2);
    }

    @Says("A card is refused at a side for the first of these reasons that applies: 1 it is on the list")
    private static void promise10_theFirstReasonThatApplies() {
        GateRow x = Due.row("row 1 1;gate both;card a 1;card b 0;wait 0 in a;tick 2;");
        Due.equal("on the other side ahead of no trip", x.why(0, 0), 2);
        Due.equal("on the other side, no trip is not asked", x.why(1, 1), 2);
        x.list(0, true);
        x.list(1, true);
        Due.equal("listed ahead of both", x.why(0, 0), 1);
        Due.equal("listed alone", x.why(0, 1), 1);
        Due.equal("listed ahead of no trip", x.why(1, 0), 1);
        Due.equal("listed ahead of the other side", x.why(1, 1), 1);
    }

    // Promise 11: whyNotJoin

    @Says({"@throws IndexOutOfBoundsException if there is no such gate, or card is neither a card nor NONE",
        "IndexOutOfBoundsException is thrown if a parameter named gate or card is not the index of such a thing"})
    private static void promise11_noSuchGateOrCard() {
        GateRow none = new GateRow();
        Rows.noIndex(none, 0, g -> none.whyNotJoin(g, 0, NONE));
        GateRow x = Due.row("row 3 2;gate both;card a 1;");
        Rows.noIndex(x, 1, g -> x.whyNotJoin(g, 0, 0));
        Rows.refuseAll(x, "card", INDEX, c -> x.whyNotJoin(0, 0, c), -2, 1, 12, MIN, MAX);
        Due.equal("NONE", x.whyNotJoin(0, 0, NONE), 0);
        Due.equal("the last card", x.whyNotJoin(0, 0, 0), 0);
    }

    @Says({"@throws IllegalArgumentException if side is not 0 or 1",
        "IllegalArgumentException if side is not 0 or 1."})
    private static void promise11_noSuchSide() {
        GateRow x = Due.row("row 3 2;gate both;card a 1;");
        Rows.noSide(x, side -> x.whyNotJoin(0, side, NONE));
        Rows.noSide(x, side -> x.whyNotJoin(0, side, 0));
    }

    @Says("If several exceptions apply to a call, the one that is listed first with the method is thrown.")
    private static void promise11_theGateAndTheCardAheadOfTheSide() {
        GateRow x = Due.row("row 3 2;gate both;card a 1;");
        Due.refused(x, "no gate, no side", INDEX, () -> x.whyNotJoin(1, 2, NONE));
        Due.refused(x, "no card, no side", INDEX, () -> x.whyNotJoin(0, 2, 1));
        Due.refused(x, "no card, no side", INDEX, () -> x.whyNotJoin(0, -1, -2));
    }

    @Says("Returns why somebody would be refused by join(int, int, int); 0 if for no reason")
    private static void promise11_eachReasonAndNone() {
        GateRow x = Rows.inside(1, 1);
        Due.equal("for no reason", x.whyNotJoin(0, 1, 0), 0);
        Rows.fill(x, 0, 1, 9);
        Due.equal("a tenth one", x.whyNotJoin(0, 1, 0), 0);
        x.join(0, 1, 0);
        Due.equal("an eleventh one", x.whyNotJoin(0, 1, 1), 2);
        Due.equal("a card in a line", x.whyNotJoin(0, 0, 0), 3);
        GateRow y = Due.row("row 3 2;gate in;gate both;card a 1;wait 1 in a;");
        Due.equal("a side that is not served", y.whyNotJoin(0, 1, 0), 1);
        Due.equal("nobody is inside", y.whyNotJoin(1, 1, NONE), 4);
        Due.equal("a card in a line ahead of nobody inside", y.whyNotJoin(1, 1, 0), 3);
        Due.equal("asking refuses nobody", y.state(13), 0);
    }

    // Promise 12: bestGate

    @Says({"@throws IllegalArgumentException if side is not 0 or 1",
        "IllegalArgumentException if side is not 0 or 1."})
    private static void promise12_noSuchSide() {
        GateRow x = Due.row("row 3 2;gate both;");
        Rows.noSide(x, x::bestGate);
        GateRow none = new GateRow();
        Rows.noSide(none, none::bestGate);
    }

    @Says("-1 if none serves it")
    private static void promise12_noneServesIt() {
        GateRow none = new GateRow();
        Due.equal("no gate, side 0", none.bestGate(0), -1);
        Due.equal("no gate, side 1", none.bestGate(1), -1);
        GateRow in = Due.row("row 3 2;gate in;gate in;");
        Due.equal("in alone, side 0", in.bestGate(0), 0);
        Due.equal("in alone, side 1", in.bestGate(1), -1);
        GateRow out = Due.row("row 3 2;gate out;");
        Due.equal("out alone, side 0", out.bestGate(0), -1);
        Due.equal("out alone, side 1", out.bestGate(1), 0);
    }

    @Says("of several the smallest index")
    private static void promise12_linesOfTheSameLength() {
        GateRow x = Due.row("row 3 2;gate out;gate both;gate in;gate in;wait 1 in;");
        Due.equal("empty ones", x.bestGate(0), 2);
        x.join(2, 0, NONE);
        Due.equal("the last one alone", x.bestGate(0), 3);
        x.join(3, 0, NONE);
        Due.equal("of one each", x.bestGate(0), 1);
        Due.equal("empty ones inside", x.bestGate(1), 0);
    }

    @Says("Returns the gate that serves a side and has the shortest line there")
    private static void promise12_fullLinesToo() {
        GateRow x = Rows.full();
        Due.equal("all are full", x.bestGate(0), 0);
        Due.equal("all are full inside", x.bestGate(1), 0);
        x.leave(5, 1, 0);
        Due.equal("nine at the last gate", x.bestGate(1), 5);
        Due.equal("not on the other side", x.bestGate(0), 0);
    }

    // Promise 13: nextSide

    @Says({"@throws IndexOutOfBoundsException if there is no such gate",
        "IndexOutOfBoundsException is thrown if a parameter named gate or card is not the index of such a thing"})
    private static void promise13_noSuchGate() {
        GateRow none = new GateRow();
        Rows.noIndex(none, 0, none::nextSide);
        GateRow x = Due.row("row 3 2;gate in;gate out;");
        Rows.noIndex(x, 2, x::nextSide);
        GateRow six = Rows.full();
        Rows.noIndex(six, 6, six::nextSide);
    }

    @Says("as by the rule 3 (also if the line there is empty)")
    private static void promise13_emptyLines() {
        GateRow x = Due.row("row 1 2;gate in;gate out;gate both;card a 9;");
        Due.equal("in alone", x.nextSide(0), 0);
        Due.equal("out alone", x.nextSide(1), 1);
        Due.equal("both, not open yet", x.nextSide(2), 0);
        x.join(2, 0, 0);
        x.tick(2);
        Due.equal("both, open for 0 last", x.nextSide(2), 1);
        x.join(2, 1, 0);
        x.tick(2);
        Due.equal("both, open for 1 last", x.nextSide(2), 0);
    }

    @Says("the side that is served next is found: the only one that it serves")
    private static void promise13_theOnlySideAlsoBehindAnOpening() {
        GateRow x = Due.row("row 1 2;gate in;gate out;card a 9;wait 0 in a;tick 2;wait 1 out a;");
        Due.equal("in alone, open for 0 last", x.nextSide(0), 0);
        x.tick(2);
        Due.equal("out alone, open for 1 last", x.nextSide(1), 1);
        x.mode(0, 1);
        x.mode(1, 0);
        Due.equal("out alone, open for 0 last", x.nextSide(0), 1);
        Due.equal("in alone, open for 1 last", x.nextSide(1), 0);
    }

    @Says({"if it serves both, the one with the longer line",
        "of lines of the same length that which it did not open for last (the side 0 if it did not open yet)"})
    private static void promise13_linesOfTheSameLength() {
        GateRow x = Rows.inside(1, 1);
        Due.equal("of none, open for 0 last", x.nextSide(0), 1);
        Rows.fill(x, 0, 0, 1);
        Due.equal("the side 0 is longer", x.nextSide(0), 0);
        Rows.fill(x, 0, 1, 1);
        Due.equal("of one each", x.nextSide(0), 1);
        Rows.fill(x, 0, 0, 9);
        Rows.fill(x, 0, 1, 9);
        Due.equal("of ten each", x.nextSide(0), 1);
        x.leave(0, 1, 0);
        Due.equal("ten and nine", x.nextSide(0), 0);
    }

    @Says("if its paddles were closed and there was no panic")
    private static void promise13_openOrInAPanic() {
        GateRow x = Due.row("row 9 2;gate both;card a 9;wait 0 in a;tick 2;");
        Due.equal("open for 0, of none", x.nextSide(0), 1);
        x.join(0, 0, NONE);
        Due.equal("open for 0, with one", x.nextSide(0), 0);
        panic(x);
        Due.equal("in a panic", x.nextSide(0), 0);
    }

    // Promise 14: throughIn

    @Says({"@throws IndexOutOfBoundsException if there is no such card",
        "IndexOutOfBoundsException is thrown if a parameter named gate or card is not the index of such a thing"})
    private static void promise14_noSuchCard() {
        GateRow none = Due.row("row 3 2;gate in;");
        Rows.noIndex(none, 0, none::throughIn);
        GateRow x = Due.row("row 3 2;card a 1;card b 1;");
        Rows.noIndex(x, 2, x::throughIn);
        GateRow twelve = Rows.full();
        Rows.noIndex(twelve, 12, twelve::throughIn);
    }

    @Says("-1 if it is in no line, or does not within 200 ticks")
    private static void promise14_inNoLine() {
        GateRow x = Due.row("row 3 2;gate both;card a 9;card b 9;wait 0 in a;");
        Due.equal("b", x.throughIn(1), -1);
        x.tick(2);
        Due.equal("a, being through", x.throughIn(0), -1);
    }

    @Says("-1 if it is in no line, or does not within 200 ticks")
    private static void promise14_whoNeverGoes() {
        GateRow x = Due.row("row 1 2;gate both;card a 9;card b 0;card c 9;list c;wait 0 in a;tick 2;wait 0 in b;wait 0 in c;");
        Due.equal("no trip: goes away", x.throughIn(1), -1);
        Due.equal("listed: goes away", x.throughIn(2), -1);
        Rows.fill(x, 0, 0, 3);
        x.join(0, 1, 0);
        Due.equal("the line of the other side stays longer", x.throughIn(0), -1);
        panic(x);
        Due.equal("in a panic out", x.throughIn(0), 1);
        Due.equal("but not in", x.throughIn(1), -1);
    }

    @Says("Returns in how many ticks a card goes through the gate in whose line it is, if only ticks pass")
    private static void promise14_fromTheNextTickOn() {
        GateRow x = Due.row("row 9 1;gate both;card a 9;card b 9;wait 0 in a;wait 0 in b;");
        Due.equal("a: opens, goes", x.throughIn(0), 2);
        Due.equal("b: behind the nine ticks of a", x.throughIn(1), 12);
        x.tick(1);
        Due.equal("a, being due", x.throughIn(0), 1);
        Due.equal("b", x.throughIn(1), 11);
        Due.equal("no tick passed by asking", x.state(4), 1);
        Due.equal("asking was no change: the tick is undone", x.undo(), 1);
        Due.equal("and the load", x.undo(), 0);
    }

    @Says("Returns in how many ticks a card goes through the gate in whose line it is, if only ticks pass")
    private static void promise14_theLastOneOfAFullLine() {
        GateRow x = Rows.inside(1, 1);
        Rows.fill(x, 0, 1, 9);
        x.join(0, 1, 0);
        Due.equal("comes to the front", x.throughIn(0), 2);
        panic(x);
        Due.equal("in a panic the tenth one", x.throughIn(0), 10);
        x.tick(9);
        Due.equal("and then the first one", x.throughIn(0), 1);
    }

    @Says("Returns in how many ticks a card goes through the gate in whose line it is, if only ticks pass")
    private static void promise14_theLongestTimeOfTwelveCards() {
        GateRow x = Due.row("row 9 1;gate both;card a 9;card b 9;card c 9;card d 9;card e 9;card f 9;card g 9;card h 9;"
                + "card i 9;card j 9;card k 9;card l 9;wait 0 in a;wait 0 in b;tick 20;wait 0 out a;");
        x.join(0, 1, 1);
        for (int c = 2; c < 12; c++) {
            x.join(0, 0, c);
        }
        Due.equal("the first one", x.throughIn(2), 2);
        Due.equal("the last one in", x.throughIn(11), 112);
        Due.equal("the last one out", x.throughIn(1), 102);
    }

    // Promises 15 and 16: insideIn, followersIn

    @Says({"1 to 200", "@throws IllegalArgumentException if ticks is out of range"})
    private static void promise15_0And201Ticks() {
        GateRow x = Rows.inside(1, 1);
        Rows.refuseAll(x, "insideIn", ARGUMENT, x::insideIn, 0, -1, 201, 202, MIN, MAX);
        Due.equal("1, the least", x.insideIn(1), 18);
        Due.equal("200, the most", x.insideIn(200), 18);
        Due.equal("no gates", new GateRow().insideIn(200), 0);
    }

    @Says("Returns people inside behind some ticks, if only ticks pass")
    private static void promise15_theFirstAndTheLastTickCount() {
        GateRow x = Due.row("row 9 1;gate both;card a 9;wait 0 in a;wait 0 in;");
        int[] wants = {0, 1, 2, 2};
        for (int t = 1; t <= 4; t++) {
            Due.equal("insideIn(" + t + ")", x.insideIn(t), wants[t - 1]);
        }
        x.tick(1);
        Due.equal("a is due", x.insideIn(1), 1);
        Due.equal("nobody is inside yet", x.state(5), 0);
    }

    @Says("Returns people inside behind some ticks, if only ticks pass")
    private static void promise15_inAPanicAndWhoGoesAway() {
        GateRow x = Rows.inside(1, 4);
        Rows.fill(x, 0, 1, 5);
        panic(x);
        Due.equal("four of five", x.insideIn(1), 14);
        Due.equal("all five", x.insideIn(2), 13);
        Due.equal("and no more", x.insideIn(200), 13);
        GateRow y = Rows.inside(1, 4);
        y.list(0, true);
        y.join(0, 1, 0);
        Due.equal("one goes away", y.insideIn(1), 17);
    }

    @Says({"1 to 200", "@throws IllegalArgumentException if ticks is out of range"})
    private static void promise16_0And201Ticks() {
        GateRow x = Rows.inside(1, 1);
        Rows.refuseAll(x, "followersIn", ARGUMENT, x::followersIn, 0, -1, 201, 202, MIN, MAX);
        Due.equal("1, the least", x.followersIn(1), 0);
        Due.equal("200, the most", x.followersIn(200), 0);
        Due.equal("no gates", new GateRow().followersIn(200), 0);
    }

    @Says("Returns followers in the next ticks, if only ticks pass")
    private static void promise16_thoseOfTheNextTicksAlone() {
        GateRow x = Rows.inside(1, 1);
        Due.equal("sixteen already", x.state(11), 16);
        x.join(0, 1, 0);
        Rows.fill(x, 0, 1, 9);
        int[] wants = {0, 0, 1, 2, 3, 4, 5, 6, 7, 8, 8};
        for (int t = 1; t <= wants.length; t++) {
            Due.equal("followersIn(" + t + ")", x.followersIn(t), wants[t - 1]);
        }
        Due.equal("followersIn(200)", x.followersIn(200), 8);
        Due.equal("none went by asking", x.state(11), 16);
        panic(x);
        Due.equal("none in a panic", x.followersIn(200), 0);
    }

    // Promise 17: outInPanic

    @Says("(0 if nobody does)")
    private static void promise17_nobodyWaitsOnTheSide1() {
        Due.equal("no gate", new GateRow().outInPanic(), 0);
        GateRow x = Rows.inside(1, 1);
        Rows.fill(x, 0, 0, 10);
        Due.equal("ten on the side 0", x.outInPanic(), 0);
        panic(x);
        Due.equal("in a panic", x.outInPanic(), 0);
    }

    @Says({"Returns in how many ticks nobody waits on the side 1, if it was a panic from now on",
        "of the line on the side 1 the first ones go out, as many as flow tells, or all"})
    private static void promise17_lines1To10ByFlows1To4() {
        for (int flow = 1; flow <= 4; flow++) {
            GateRow x = Rows.inside(1, flow);
            for (int people = 1; people <= 10; people++) {
                x.join(0, 1, NONE);
                Due.equal(people + " by " + flow, x.outInPanic(), (people + flow - 1) / flow);
            }
        }
    }

    @Says("Returns in how many ticks nobody waits on the side 1, if it was a panic from now on")
    private static void promise17_theLongestLineOfSeveralGates() {
        GateRow x = Rows.inside(6, 4);
        Rows.fill(x, 0, 1, 4);
        Rows.fill(x, 5, 1, 4);
        Due.equal("of four each", x.outInPanic(), 1);
        Rows.fill(x, 5, 1, 1);
        Due.equal("of five at the last gate", x.outInPanic(), 2);
        x.leave(5, 1, 0);
        Rows.fill(x, 0, 1, 6);
        Due.equal("of ten at the first gate", x.outInPanic(), 3);
        Due.equal("asking is no panic", x.state(7), 0);
        panic(x);
        Due.equal("in a panic already", x.outInPanic(), 3);
        x.tick(2);
        Due.equal("some wait yet", x.gate(0, 5), 2);
        Due.equal("one tick more", x.outInPanic(), 1);
    }

    @Says("(As a panic begins, all paddles are closed, and nobody is due any more.)")
    private static void promise17_openPaddlesDoNotMatter() {
        GateRow x = Rows.inside(1, 1);
        x.join(0, 1, 0);
        Rows.fill(x, 0, 1, 2);
        Due.equal("closed", x.outInPanic(), 3);
        x.tick(1);
        Due.equal("open, a is due", x.outInPanic(), 3);
        x.tick(1);
        Due.equal("open", x.outInPanic(), 2);
    }

    // Promise 18: ranked

    @Says("@throws NoSuchElementException if there is no such rank")
    private static void promise18_noSuchRank() {
        GateRow none = new GateRow();
        Rows.refuseAll(none, "no gates", ELEMENT, none::ranked, -1, 0, 1, 6, MIN, MAX);
        GateRow x = Due.row("row 3 2;gate in;gate in;");
        Rows.refuseAll(x, "two gates", ELEMENT, x::ranked, -1, 2, 3, 6, MIN, MAX);
        GateRow six = Rows.full();
        Rows.refuseAll(six, "six gates", ELEMENT, six::ranked, -1, 6, 7, MIN, MAX);
    }

    @Says({"the one at a rank, from 0", "first the most, of several the smallest index"})
    private static void promise18_emptyAndFullLines() {
        GateRow x = Rows.inside(6, 1);
        for (int rank = 0; rank < 6; rank++) {
            Due.equal("all are empty", x.ranked(rank), rank);
        }
        Rows.fill(x, 5, 0, 1);
        Rows.fill(x, 2, 1, 1);
        int[] wants = {2, 5, 0, 1, 3, 4};
        for (int rank = 0; rank < 6; rank++) {
            Due.equal("one at 2 and at 5", x.ranked(rank), wants[rank]);
        }
        GateRow full = Rows.full();
        for (int rank = 0; rank < 6; rank++) {
            Due.equal("all are full", full.ranked(rank), rank);
        }
        full.leave(0, 1, 0);
        Due.equal("19 people are the fewest", full.ranked(5), 0);
    }

    @Says("Returns the gates by the people in both lines together")
    private static void promise18_bothLinesTogether() {
        GateRow x = Rows.inside(2, 1);
        Rows.fill(x, 0, 0, 10);
        Rows.fill(x, 1, 0, 5);
        Rows.fill(x, 1, 1, 5);
        Due.equal("ten each", x.ranked(0), 0);
        Rows.fill(x, 1, 1, 1);
        Due.equal("eleven", x.ranked(0), 1);
    }

    // Promise 19: gap

    @Says("people who went in less those who went out, those who went away inside, and the people inside")
    private static void promise19_noneAtAll() {
        Due.equal("new", new GateRow().gap(), 0);
        Due.equal("loaded", Due.row("row 3 2;gate both;card a 1;").gap(), 0);
    }

    @Says("people who went in less those who went out, those who went away inside, and the people inside")
    private static void promise19_inOutAwayAndAPanic() {
        GateRow x = Rows.inside(2, 1);
        Due.equal("in", x.gap(), 0);
        x.list(0, true);
        x.join(0, 1, 0);
        x.join(1, 1, 1);
        Rows.fill(x, 1, 1, 3);
        x.tick(3);
        Rows.states("one away, two out", x, 2, 12, 9, 1, 23, 33, 2, 0, 0, 36, 2, 33, 1);
        Due.equal("away inside, and out", x.gap(), 0);
        panic(x);
        x.tick(1);
        Due.equal("in a panic", x.gap(), 0);
        x.undo();
        Due.equal("undone", x.gap(), 0);
        x.join(0, 0, 4);
        x.list(4, true);
        x.key(0);
        x.tick(1);
        Due.equal("away outside", x.state(12), 2);
        Due.equal("gap", x.gap(), 0);
    }

    @Says("people who went in less those who went out, those who went away inside, and the people inside")
    private static void promise19_whoWentAwayInsideAndIsBackByUndo() {
        GateRow x = Rows.inside(1, 1);
        x.list(0, true);
        x.join(0, 1, 0);
        x.tick(1);
        Due.equal("away", x.state(5), 17);
        Due.equal("gap", x.gap(), 0);
        x.undo();
        Due.equal("back", x.state(5), 18);
        Due.equal("gap of who is back", x.gap(), 0);
        Due.equal("asked ahead", x.insideIn(1), 17);
        Due.equal("gap behind a question", x.gap(), 0);
        x.tick(1);
        Due.load(x, "row 3 2;gate both;");
        Due.equal("gap from the load on", x.gap(), 0);
    }

    @Says("cards that are in two lines, and people in lines of sides that a gate does not serve, together; 0.")
    private static void promise19_fullLinesAndOtherModes() {
        GateRow x = Rows.full();
        Due.equal("full lines", x.gap(), 0);
        x.join(0, 0, 0);
        x.join(1, 1, 0);
        Due.equal("refused", x.gap(), 0);
        Due.thrown("a mode without the side 1", IllegalStateException.class, () -> x.mode(0, 0));
        Due.equal("not another mode", x.gap(), 0);
    }

    // Promise 20: followerShare

    @Says("0 if nobody did")
    private static void promise20_nobodyWent() {
        Due.equalFloat("new", new GateRow().followerShare(), 0f);
        GateRow x = Due.row("row 9 1;gate both;card a 1;card b 0;wait 0 in a;wait 0 in b;tick 1;");
        Due.equalFloat("nobody yet", x.followerShare(), 0f);
        x.tick(1);
        Due.equalFloat("one, who did not follow", x.followerShare(), 0f);
        Due.load(x, "row 1 1;");
        Due.equalFloat("since the load", x.followerShare(), 0f);
    }

    @Says("both converted to float and divided")
    private static void promise20_sharesOfManyPeople() {
        GateRow x = Rows.inside(1, 1);
        Due.equalFloat("16 of 18", x.followerShare(), 16f / 18f);
        x.join(0, 1, 0);
        Rows.fill(x, 0, 1, 8);
        x.tick(2);
        Due.equalFloat("16 of 19", x.followerShare(), 16f / 19f);
        x.tick(8);
        Due.equalFloat("24 of 27", x.followerShare(), 24f / 27f);
        Rows.fill(x, 0, 1, 3);
        panic(x);
        x.tick(3);
        Due.equalFloat("24 of 30: in a panic nobody follows", x.followerShare(), 24f / 30f);
    }
}
