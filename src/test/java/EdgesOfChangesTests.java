import java.io.IOException;
import java.math.BigInteger;
import java.util.ArrayList;
import java.util.List;
import java.util.NoSuchElementException;

/** A test for each sentence that names a boundary case: promises 21 to 29, the changes and the checksum. */
public final class EdgesOfChangesTests {
    private static final Class<IllegalArgumentException> ARGUMENT = IllegalArgumentException.class;
    private static final Class<IndexOutOfBoundsException> INDEX = IndexOutOfBoundsException.class;
    private static final Class<IllegalStateException> STATE = IllegalStateException.class;
    private static final Class<NoSuchElementException> ELEMENT = NoSuchElementException.class;
    private static final int NONE = GateRow.NONE;
    private static final int MIN = Rows.MIN;
    private static final int MAX = Rows.MAX;

    public static void main(String[] args) throws IOException {
        Promises.runQuoting(EdgesOfChangesTests.class, 21, 29);
        Due.end("EdgesOfChangesTests");
    }

    private static GateRow panic(GateRow x) {
        x.key(1);
        x.key(2);
        return x;
    }

    // Promise 21: join

    @Says({"@throws IndexOutOfBoundsException if there is no such gate, or card is neither a card nor NONE",
        "IndexOutOfBoundsException is thrown if a parameter named gate or card is not the index of such a thing"})
    private static void promise21_noSuchGateOrCard() {
        GateRow none = new GateRow();
        Rows.noIndex(none, 0, g -> none.join(g, 0, NONE));
        GateRow x = Due.row("row 3 2;gate both;gate in;card a 1;card b 1;");
        Rows.noIndex(x, 2, g -> x.join(g, 0, 0));
        Rows.refuseAll(x, "card", INDEX, c -> x.join(0, 0, c), -2, 2, 12, MIN, MAX);
        Due.equal("NONE at the last gate", x.join(1, 0, NONE), 1);
        Due.equal("the last card", x.join(1, 0, 1), 2);
        GateRow most = Rows.inside(6, 1);
        Rows.noIndex(most, 6, g -> most.join(g, 0, NONE));
        Rows.refuseAll(most, "card", INDEX, c -> most.join(0, 0, c), -2, 12, 13, MIN, MAX);
    }

    @Says({"@throws IllegalArgumentException if side is not 0 or 1",
        "IllegalArgumentException if side is not 0 or 1."})
    private static void promise21_noSuchSide() {
        GateRow x = Due.row("row 3 2;gate both;card a 1;");
        Rows.noSide(x, side -> x.join(0, side, NONE));
        Rows.noSide(x, side -> x.join(0, side, 0));
    }

    @Says("If several exceptions apply to a call, the one that is listed first with the method is thrown.")
    private static void promise21_theGateAndTheCardAheadOfTheSide() {
        GateRow x = Due.row("row 3 2;gate both;card a 1;");
        Due.refused(x, "no gate, no side", INDEX, () -> x.join(1, 2, NONE));
        Due.refused(x, "no card, no side", INDEX, () -> x.join(0, 2, 1));
        Due.refused(x, "no card, no side", INDEX, () -> x.join(0, -1, -2));
    }

    @Says({"1 the gate does not serve the side",
        "A gate serves the side 0 in the modes 0 and 2, the side 1 in the modes 1 and 2."})
    private static void promise21_refusedAsTheGateDoesNotServeTheSide() {
        GateRow x = Due.row("row 9 2;gate in;gate out;gate both;card a 9;wait 2 in a;wait 2 in;wait 2 in;tick 10;");
        Due.equal("in, side 0", x.join(0, 0, NONE), 1);
        Due.equal("in, side 1", x.join(0, 1, NONE), -1);
        Due.equal("out, side 0", x.join(1, 0, NONE), -1);
        Due.equal("out, side 1", x.join(1, 1, NONE), 1);
        Due.equal("both, side 0", x.join(2, 0, NONE), 1);
        Due.equal("both, side 1", x.join(2, 1, NONE), 1);
        Rows.lines("nobody waits there", x, 0, 1);
        Rows.lines("nor there", x, 1, 0);
    }

    @Says({"2 the line has 10 people", "On each side of a gate there is a line of at most 10 people"})
    private static void promise21_the10thAndThe11thOfEachSide() {
        GateRow x = Rows.inside(1, 1);
        for (int side = 0; side <= 1; side++) {
            for (int people = 1; people <= 10; people++) {
                Due.equal("comes as the number " + people, x.join(0, side, NONE), people);
            }
            Due.equal("the eleventh one", x.join(0, side, NONE), -2);
            Due.equal("with a card", x.join(0, side, 5), -2);
            Due.equal("people", x.gate(0, 4 + side), 10);
        }
        x.leave(0, 1, 9);
        Due.equal("a place is free again", x.join(0, 1, 0), 10);
    }

    @Says({"3 the card is in a line", "A card is in one line at most."})
    private static void promise21_refusedAsTheCardIsInALine() {
        GateRow x = Due.row("row 9 2;gate both;gate both;card a 9;card b 9;wait 0 in a;tick 10;wait 0 out a;wait 1 in b;");
        Due.equal("the same line", x.join(0, 1, 0), -3);
        Due.equal("the other side", x.join(0, 0, 0), -3);
        Due.equal("the other gate", x.join(1, 0, 0), -3);
        Due.equal("the last card", x.join(0, 0, 1), -3);
        Due.equal("people without a card may wait at any time", x.join(1, 0, NONE), 2);
        x.leave(1, 0, 0);
        Due.equal("being in no line any more", x.join(0, 0, 1), 1);
    }

    @Says("4 the side is 1, and all people inside are in lines")
    private static void promise21_refusedAsAllPeopleInsideAreInLines() {
        GateRow x = Due.row("row 9 2;gate both;gate out;card a 9;");
        Due.equal("nobody is inside", x.join(0, 1, NONE), -4);
        Due.equal("nor is a", x.join(0, 1, 0), -4);
        Due.equal("the side 0 does not ask", x.join(0, 0, 0), 1);
        x.join(0, 0, NONE);
        x.tick(10);
        Due.equal("the first of two", x.join(0, 1, NONE), 1);
        Due.equal("the second of two, at another gate", x.join(1, 1, 0), 1);
        Due.equal("a third one", x.join(1, 1, NONE), -4);
        x.leave(0, 1, 0);
        Due.equal("one is free again", x.join(1, 1, NONE), 2);
    }

    @Says("It is refused for the first of these reasons that applies:")
    private static void promise21_theFirstReasonThatApplies() {
        GateRow x = Due.row("row 9 2;gate in;gate both;card a 9;wait 0 in a;");
        Due.equal("1 ahead of 3 and 4", x.join(0, 1, 0), -1);
        Due.equal("3 ahead of 4", x.join(1, 1, 0), -3);
        Rows.fill(x, 0, 0, 9);
        Due.equal("2 ahead of 3", x.join(0, 0, 0), -2);
        GateRow y = Rows.inside(1, 1);
        y.join(0, 1, 0);
        Rows.fill(y, 0, 1, 7);
        y.tick(10);
        Due.equal("ten are left inside", y.state(5), 10);
        Rows.fill(y, 0, 1, 9);
        Due.equal("all of them in the line", y.join(0, 1, 1), 10);
        Due.equal("2 ahead of 4", y.join(0, 1, NONE), -2);
        Due.equal("2 ahead of 3 and 4", y.join(0, 1, 1), -2);
    }

    @Says("@return people in the line then; or 0 less the reason if it is refused")
    private static void promise21_whoIsRefusedIsCountedAndNothingElse() {
        GateRow x = Due.row("row 3 2;gate in;");
        long before = x.checksum();
        Due.equal("refused", x.join(0, 1, NONE), -1);
        Rows.states("counted", x, 1, 0, 3, 2, 0, 0, 0, 0, 0, 0, 0, 0, 0, 1, 0, 0);
        Due.equal("undone", x.undo(), 1);
        Due.equal("as before", x.checksum(), before);
    }

    // Promise 22: leave

    @Says({"@throws IndexOutOfBoundsException if there is no such gate",
        "IndexOutOfBoundsException is thrown if a parameter named gate or card is not the index of such a thing"})
    private static void promise22_noSuchGate() {
        GateRow none = new GateRow();
        Rows.noIndex(none, 0, g -> none.leave(g, 0, 0));
        GateRow x = Rows.full();
        Rows.noIndex(x, 6, g -> x.leave(g, 0, 0));
        Due.equal("the last one", x.leave(5, 0, 0), 9);
    }

    @Says({"@throws IllegalArgumentException if side is not 0 or 1",
        "IllegalArgumentException if side is not 0 or 1."})
    private static void promise22_noSuchSide() {
        GateRow x = Due.row("row 3 2;gate both;wait 0 in;");
        Rows.noSide(x, side -> x.leave(0, side, 0));
    }

    @Says("@throws NoSuchElementException if there is no such place")
    private static void promise22_noSuchPlace() {
        GateRow x = Due.row("row 3 2;gate both;wait 0 in;wait 0 in;");
        Rows.refuseAll(x, "a line of two", ELEMENT, p -> x.leave(0, 0, p), -1, 2, 3, 10, MIN, MAX);
        Rows.refuseAll(x, "an empty line", ELEMENT, p -> x.leave(0, 1, p), -1, 0, 1, 10, MIN, MAX);
        GateRow full = Rows.full();
        Rows.refuseAll(full, "a full line", ELEMENT, p -> full.leave(0, 1, p), -1, 10, 11, MIN, MAX);
    }

    @Says("@throws IllegalStateException if they are due")
    private static void promise22_whoIsDue() {
        GateRow x = Due.row("row 9 2;gate both;card a 9;card b 9;wait 0 in;wait 0 in a;wait 0 in b;");
        Due.equal("the first one, nobody being due", x.leave(0, 0, 0), 2);
        x.tick(1);
        Due.refused(x, "a is due", STATE, () -> x.leave(0, 0, 0));
        Due.equal("b is not", x.leave(0, 0, 1), 1);
        x.tick(1);
        x.join(0, 0, 1);
        Due.equal("nobody is due, though the paddles are open", x.leave(0, 0, 0), 0);
        GateRow y = Rows.inside(1, 1);
        y.join(0, 1, 0);
        y.join(0, 0, 5);
        y.tick(1);
        Due.refused(y, "due on the side 1", STATE, () -> y.leave(0, 1, 0));
        Due.equal("not the first one on the side 0", y.leave(0, 0, 0), 0);
    }

    @Says("(As a panic begins, all paddles are closed, and nobody is due any more.)")
    private static void promise22_nobodyIsDueInAPanic() {
        GateRow x = Due.row("row 9 2;gate both;card a 9;wait 0 in a;tick 1;");
        x.key(1);
        Due.refused(x, "one key, a is due yet", STATE, () -> x.leave(0, 0, 0));
        x.key(2);
        Due.equal("two keys", x.leave(0, 0, 0), 0);
    }

    @Says("If several exceptions apply to a call, the one that is listed first with the method is thrown.")
    private static void promise22_theGateTheSideThePlaceAndWhoIsDue() {
        GateRow x = Due.row("row 9 2;gate both;card a 9;wait 0 in a;tick 1;");
        Due.refused(x, "no gate, no side, no place", INDEX, () -> x.leave(1, 2, 9));
        Due.refused(x, "no gate, no place", INDEX, () -> x.leave(-1, 0, 9));
        Due.refused(x, "no side, no place", ARGUMENT, () -> x.leave(0, 2, 9));
        Due.refused(x, "no side", ARGUMENT, () -> x.leave(0, -1, 0));
        Due.refused(x, "no place, though somebody is due", ELEMENT, () -> x.leave(0, 0, 1));
    }

    @Says("Somebody leaves a line, and stays on their side. @param place from 0 @return people in the line then")
    private static void promise22_theFirstTheLastAndTheOnlyOne() {
        GateRow x = Rows.inside(1, 1);
        x.join(0, 1, 0);
        Rows.fill(x, 0, 1, 8);
        x.join(0, 1, 1);
        Due.equal("the first of ten", x.leave(0, 1, 0), 9);
        Rows.lines("nine", x, 0, 1, -1, -1, -1, -1, -1, -1, -1, -1, 1);
        Due.equal("the last of nine", x.leave(0, 1, 8), 8);
        for (int left = 7; left >= 0; left--) {
            Due.equal("another one", x.leave(0, 1, 0), left);
        }
        Due.equal("all are inside yet", x.state(5), 18);
        Rows.cards("a is inside yet", x, 0, 8, 1, 0, -1, -1, -1, 1);
        x.join(0, 0, 5);
        Due.equal("the only one", x.leave(0, 0, 0), 0);
        Rows.cards("is outside yet", x, 5, 9, 0, 0, -1, -1, -1, 0);
    }

    // Promise 23: list

    @Says({"@throws IndexOutOfBoundsException if there is no such card",
        "IndexOutOfBoundsException is thrown if a parameter named gate or card is not the index of such a thing"})
    private static void promise23_noSuchCard() {
        GateRow none = Due.row("row 3 2;gate in;");
        Rows.noIndex(none, 0, c -> none.list(c, true));
        GateRow x = Due.row("row 3 2;card a 1;card b 1;list a;");
        Rows.noIndex(x, 2, c -> x.list(c, true));
        Rows.noIndex(x, 2, c -> x.list(c, false));
        GateRow twelve = Rows.inside(1, 1);
        Rows.noIndex(twelve, 12, c -> twelve.list(c, true));
    }

    @Says("A card comes on the list, or off it. @return cards on the list then")
    private static void promise23_noneAndAll12CardsListed() {
        GateRow x = Rows.inside(1, 1);
        Due.equal("none", x.list(0, false), 0);
        for (int c = 0; c < 12; c++) {
            Due.equal("listed", x.list(c, true), c + 1);
        }
        Due.equal("listed again", x.list(11, true), 12);
        for (int c = 0; c < 12; c++) {
            Due.equal("off", x.list(c, false), 11 - c);
        }
        Due.equal("off again", x.list(0, false), 0);
    }

    // Promise 24: charge

    @Says({"@throws IndexOutOfBoundsException if there is no such card",
        "IndexOutOfBoundsException is thrown if a parameter named gate or card is not the index of such a thing"})
    private static void promise24_noSuchCard() {
        GateRow none = Due.row("row 3 2;gate in;");
        Rows.noIndex(none, 0, c -> none.charge(c, 1));
        GateRow x = Due.row("row 3 2;card a 1;card b 1;");
        Rows.noIndex(x, 2, c -> x.charge(c, 1));
        Due.equal("the last one", x.charge(1, 1), 2);
    }

    @Says({"1 to 99", "@throws IllegalArgumentException if trips is out of range"})
    private static void promise24_tripsBelow1AndAbove99() {
        GateRow x = Due.row("row 3 2;card a 0;card b 0;");
        Rows.refuseAll(x, "charge", ARGUMENT, trips -> x.charge(0, trips), 0, -1, 100, 101, MIN, MAX);
        Due.equal("1, the least", x.charge(0, 1), 1);
        Due.equal("99, the most", x.charge(1, 99), 99);
    }

    @Says("@throws IllegalStateException if there would be more than 99")
    private static void promise24_99AndMoreThan99Trips() {
        GateRow x = Due.row("row 3 2;card a 98;card b 99;card c 1;card d 50;");
        Rows.refuseAll(x, "98 and", STATE, trips -> x.charge(0, trips), 2, 3, 99);
        Due.equal("98 and 1", x.charge(0, 1), 99);
        Rows.refuseAll(x, "99 and", STATE, trips -> x.charge(0, trips), 1, 99);
        Rows.refuseAll(x, "99 of the text and", STATE, trips -> x.charge(1, trips), 1, 2, 99);
        Due.refused(x, "1 and 99", STATE, () -> x.charge(2, 99));
        Due.equal("1 and 98", x.charge(2, 98), 99);
        Due.refused(x, "50 and 50", STATE, () -> x.charge(3, 50));
        Due.equal("50 and 49", x.charge(3, 49), 99);
    }

    @Says("If several exceptions apply to a call, the one that is listed first with the method is thrown.")
    private static void promise24_theCardThenTheTripsThenTheSum() {
        GateRow x = Due.row("row 3 2;card a 99;");
        Due.refused(x, "no card, no trips", INDEX, () -> x.charge(1, 0));
        Due.refused(x, "no card, too many trips", INDEX, () -> x.charge(-1, 100));
        Due.refused(x, "too many trips for a full card", ARGUMENT, () -> x.charge(0, 100));
        Due.refused(x, "trips that would wrap around", ARGUMENT, () -> x.charge(0, MAX));
    }

    // Promise 25: mode

    @Says({"@throws IndexOutOfBoundsException if there is no such gate",
        "IndexOutOfBoundsException is thrown if a parameter named gate or card is not the index of such a thing"})
    private static void promise25_noSuchGate() {
        GateRow none = new GateRow();
        Rows.noIndex(none, 0, g -> none.mode(g, 0));
        GateRow x = Due.row("row 3 2;gate in;gate in;");
        Rows.noIndex(x, 2, g -> x.mode(g, 2));
        Due.equal("the last one", x.mode(1, 2), 0);
    }

    @Says({"0 to 2", "@throws IllegalArgumentException if mode is out of range"})
    private static void promise25_modesBelow0AndAbove2() {
        GateRow x = Due.row("row 3 2;gate out;");
        Rows.refuseAll(x, "mode", ARGUMENT, mode -> x.mode(0, mode), -1, 3, 4, MIN, MAX);
        Due.equal("0, the least", x.mode(0, 0), 1);
        Due.equal("2, the most", x.mode(0, 2), 0);
        Due.equal("1", x.mode(0, 1), 2);
        Due.equal("its mode", x.gate(0, 0), 1);
    }

    @Says("@throws IllegalStateException if its paddles are open")
    private static void promise25_openPaddles() {
        GateRow x = Due.row("row 2 2;gate both;gate both;card a 9;wait 0 in a;");
        for (int open = 0; open < 2; open++) {
            x.tick(1);
            Rows.refuseAll(x, "open", STATE, mode -> x.mode(0, mode), 0, 1, 2);
        }
        Due.equal("those of another gate do not matter", x.mode(1, 0), 2);
        x.tick(1);
        Due.equal("closed", x.mode(0, 1), 2);
    }

    @Says("or there are people on a side that it does not serve then")
    private static void promise25_peopleWhoWouldNotBeServed() {
        GateRow x = Rows.inside(1, 1);
        Rows.fill(x, 0, 0, 1);
        Due.refused(x, "one on the side 0", STATE, () -> x.mode(0, 1));
        Due.equal("in alone", x.mode(0, 0), 2);
        Due.refused(x, "from in to out", STATE, () -> x.mode(0, 1));
        Due.equal("both", x.mode(0, 2), 0);
        Rows.fill(x, 0, 1, 1);
        Due.refused(x, "one on each side, in alone", STATE, () -> x.mode(0, 0));
        Due.refused(x, "one on each side, out alone", STATE, () -> x.mode(0, 1));
        Due.equal("both again", x.mode(0, 2), 2);
        x.leave(0, 0, 0);
        Due.refused(x, "one on the side 1", STATE, () -> x.mode(0, 0));
        Due.equal("out alone", x.mode(0, 1), 2);
        x.leave(0, 1, 0);
        Due.equal("empty lines", x.mode(0, 0), 1);
    }

    @Says("If several exceptions apply to a call, the one that is listed first with the method is thrown.")
    private static void promise25_theGateThenTheModeThenThePaddles() {
        GateRow x = Due.row("row 9 2;gate in;card a 9;wait 0 in a;tick 1;");
        Due.refused(x, "no gate, no mode", INDEX, () -> x.mode(1, 3));
        Due.refused(x, "no gate, no mode", INDEX, () -> x.mode(-1, -1));
        Due.refused(x, "no mode, open", ARGUMENT, () -> x.mode(0, 3));
    }

    // Promise 26: key

    @Says({"0 to 2", "@throws IllegalArgumentException if key is out of range"})
    private static void promise26_keysBelow0AndAbove2() {
        GateRow x = new GateRow();
        Rows.refuseAll(x, "key", ARGUMENT, x::key, -1, 3, 4, 31, 32, 34, MIN, MAX);
        Due.equal("0, the least", x.key(0), 1);
        Due.equal("2, the most", x.key(2), 2);
    }

    @Says({"There are three keys, each turned or not (not at first).", "A key is turned, or turned back.",
        "@return keys that are turned then"})
    private static void promise26_noneAndAll3KeysTurned() {
        GateRow x = new GateRow();
        for (int key = 0; key < 3; key++) {
            Due.equal("turned", x.key(key), key + 1);
        }
        for (int key = 0; key < 3; key++) {
            Due.equal("turned back", x.key(key), 2 - key);
        }
    }

    @Says("It is a panic as long as two or three of them are turned.")
    private static void promise26_aPanicBy2And3Keys() {
        int[][] pairs = {{0, 1, 2}, {0, 2, 1}, {1, 2, 0}};
        for (int[] keys : pairs) {
            GateRow x = new GateRow();
            x.key(keys[0]);
            Due.equal("one", x.state(7), 0);
            x.key(keys[1]);
            Due.equal("two", x.state(7), 1);
            x.key(keys[2]);
            Due.equal("three", x.state(7), 1);
            x.key(keys[0]);
            Due.equal("two again", x.state(7), 1);
            x.key(keys[1]);
            Due.equal("one again", x.state(7), 0);
        }
    }

    @Says("(As a panic begins, all paddles are closed, and nobody is due any more.)")
    private static void promise26_thePaddlesOfTheFirstAndTheLastGate() {
        GateRow x = Rows.inside(6, 1);
        x.join(0, 1, 0);
        x.join(5, 0, NONE);
        x.join(5, 1, 1);
        x.join(5, 1, 2);
        x.tick(1);
        x.key(0);
        Due.equal("one key closes nothing", x.state(15), 2);
        Rows.gates("due", x, 0, 2, 9, 1, 1, 0, 1);
        x.key(1);
        Due.equal("two keys close all", x.state(15), 0);
        Rows.gates("the first gate", x, 0, 2, 0, -1, 0, 0, 1, 16, 3, 1);
        Rows.gates("the last gate", x, 5, 2, 0, -1, 0, 1, 2, 16, 3, 1);
    }

    @Says("It is a panic as long as two or three of them are turned.")
    private static void promise26_behindAPanicThePaddlesStayClosed() {
        GateRow x = Due.row("row 9 1;gate in;card a 9;wait 0 in a;tick 1;key 0;key 1;");
        x.tick(3);
        x.key(0);
        Rows.gates("closed, a waits", x, 0, 0, 0, -1, 0, 1, 0, 0, 1, 0);
        Due.equal("opens again", x.tick(1), 0);
        Due.equal("a goes in", x.tick(1), 1);
    }

    // Promise 27: tick

    @Says({"1 to 99", "@throws IllegalArgumentException if ticks is out of range"})
    private static void promise27_ticksBelow1AndAbove99() {
        GateRow x = Due.row("row 9 1;gate in;card a 9;wait 0 in a;");
        Rows.refuseAll(x, "tick", ARGUMENT, x::tick, 0, -1, 100, 101, 200, MIN, MAX);
        Due.equal("1, the least", x.tick(1), 0);
        Due.equal("1 passed", x.state(4), 1);
        Due.equal("99, the most", x.tick(99), 1);
        Due.equal("100 passed", x.state(4), 100);
    }

    @Says("@return people who go through gates in them")
    private static void promise27_nobodyAndManyGoThrough() {
        Due.equal("no gates", new GateRow().tick(99), 0);
        GateRow x = Rows.inside(6, 4);
        Due.equal("empty lines", x.tick(99), 0);
        x.join(0, 1, 0);
        x.join(5, 0, 5 + 6);
        Due.equal("paddles open", x.tick(1), 0);
        x.list(0, true);
        Due.equal("a who is due goes out, the other one is refused as inside", x.tick(1), 1);
        for (int g = 0; g < 6; g++) {
            Rows.fill(x, g, 1, 10);
        }
        panic(x);
        Due.equal("in a panic", x.tick(1), 24);
        Due.equal("in a panic, all others", x.tick(99), 36);
    }

    @Says({"of the line on the side 1 the first ones go out, as many as flow tells, or all", "In a panic nobody goes in."})
    private static void promise27_fewerAsManyAndMoreThanFlow() {
        for (int flow = 1; flow <= 4; flow++) {
            for (int people = 0; people <= 10; people++) {
                GateRow x = Rows.inside(1, flow);
                Rows.fill(x, 0, 1, people);
                Rows.fill(x, 0, 0, 3);
                panic(x);
                int out = Math.min(flow, people);
                Due.equal(people + " by " + flow, x.tick(1), out);
                Due.equal("left", x.gate(0, 5), people - out);
                Due.equal("nobody goes in", x.gate(0, 4), 3);
                Due.equal("inside", x.state(5), 18 - out);
                Due.equal("out in a panic", x.state(14), out);
            }
        }
    }

    @Says("(their cards become outside, nothing else is asked)")
    private static void promise27_inAPanicCardsAreNotAsked() {
        GateRow x = Rows.inside(1, 2);
        x.join(0, 1, 5);
        x.join(0, 1, 0);
        x.join(0, 1, 1);
        x.list(0, true);
        panic(x);
        Due.equal("one who is outside, and one on the list", x.tick(1), 2);
        Rows.cards("it was outside", x, 5, 9, 0, 0, -1, -1, -1, 1);
        Rows.cards("it was listed", x, 0, 8, 0, 1, -1, -1, -1, 2);
        Rows.cards("it waits yet", x, 1, 8, 1, 0, 0, 1, 0, 1);
        Due.equal("nobody went away", x.state(12), 0);
        Due.equal("nobody followed", x.state(11), 16);
    }

    @Says("If its paddles are open: if somebody is due, the first one of the line of that side goes through")
    private static void promise27_dueInTheFirstOpenTickAlone() {
        for (int hold = 1; hold <= 9; hold++) {
            GateRow x = Due.row("row " + hold + " 1;gate both;card a 1;wait 0 in a;");
            Due.equal("opens", x.tick(1), 0);
            Due.equal("goes in", x.tick(1), 1);
            Rows.cards("with its last trip less", x, 0, 0, 1, 0, -1, -1, -1, 1);
            Rows.gates("one open tick less", x, 0, 2, hold - 1, hold > 1 ? 0 : -1, 0, 0, 0, 0, 1, 0);
            if (hold > 1) {
                x.tick(hold - 1);
            }
            x.join(0, 1, 0);
            Due.equal("out", x.tick(2), 1);
            Rows.cards("out costs no trip", x, 0, 0, 0, 0, -1, -1, -1, 2);
        }
    }

    @Says({"they go through: a follower, with an alarm of the gate", "Then the paddles are open for 1 tick less"})
    private static void promise27_asManyFollowersAsThereAreOpenTicks() {
        for (int hold = 1; hold <= 9; hold++) {
            GateRow x = Due.row("row " + hold + " 1;gate both;card a 1;wait 0 in a;");
            Rows.fill(x, 0, 0, 9);
            Due.equal("who is due and those who follow", x.tick(99), hold);
            Rows.gates("nine are ready to follow", x, 0, 2, 0, -1, 0, 10 - hold, 0, hold - 1, 1, 0);
            Due.equal("followers", x.state(11), hold - 1);
            Due.equal("inside", x.state(5), hold);
        }
    }

    @Says("(If the line is empty, or its first one has a card, nobody does.)")
    private static void promise27_openWithAnEmptyLine() {
        GateRow x = Due.row("row 3 1;gate both;card a 1;wait 0 in a;tick 2;");
        Due.equal("nobody", x.tick(1), 0);
        Rows.gates("open for one tick less", x, 0, 2, 1, 0, 0, 0, 0, 0, 1, 0);
        x.join(0, 0, NONE);
        Due.equal("who comes to it follows yet", x.tick(1), 1);
        Rows.gates("closed", x, 0, 2, 0, -1, 0, 0, 0, 1, 1, 0);
    }

    @Says("(If the line is empty, or its first one has a card, nobody does.)")
    private static void promise27_openWithACardAhead() {
        GateRow x = Due.row("row 4 1;gate both;card a 1;card b 1;card c 1;wait 0 in a;wait 0 in b;wait 0 in;tick 2;");
        Due.equal("b does not follow, nor who stands behind", x.tick(2), 0);
        Rows.lines("both wait", x, 0, 0, 1, -1);
        x.leave(0, 0, 0);
        Due.equal("now they follow", x.tick(1), 1);
        Due.equal("alarms", x.gate(0, 6), 1);
    }

    @Says("and the first one of that line has no card")
    private static void promise27_theOtherSideDoesNotFollow() {
        GateRow x = Due.row("row 3 1;gate both;card a 1;wait 0 in a;wait 0 in;tick 3;wait 0 out;");
        Due.equal("open for the side 0", x.gate(0, 2), 0);
        Due.equal("the line of the side 0 is empty", x.tick(1), 0);
        Rows.lines("who is on the side 1 waits", x, 0, 1, -1);
    }

    @Says("If the line there is empty, nothing is done.")
    private static void promise27_closedWithEmptyLines() {
        GateRow x = Due.row("row 3 1;gate in;gate out;gate both;card a 1;");
        Due.equal("nobody", x.tick(99), 0);
        for (int g = 0; g < 3; g++) {
            Rows.gates("nothing", x, g, g, 0, -1, 0, 0, 0, 0, 0, -1);
        }
        GateRow y = Due.row("row 1 1;gate both;card a 9;card b 9;wait 0 in a;tick 2;");
        y.join(0, 1, 0);
        Due.equal("one on the side 1 alone", y.tick(2), 1);
        y.join(0, 0, 0);
        Due.equal("one on the side 0 alone", y.tick(2), 1);
    }

    @Says("If nobody in it has a card, nothing is done either.")
    private static void promise27_closedWithoutAnyCard() {
        GateRow x = Due.row("row 3 1;gate both;card a 9;");
        Rows.fill(x, 0, 0, 10);
        Due.equal("ten without a card", x.tick(99), 0);
        Rows.gates("nothing", x, 0, 2, 0, -1, 0, 10, 0, 0, 0, -1);
        x.leave(0, 0, 0);
        x.join(0, 0, 0);
        x.tick(1);
        Rows.lines("the tenth one has a card and comes to the front", x, 0, 0, 0, -1, -1, -1, -1, -1, -1, -1, -1, -1);
        Rows.gates("open", x, 0, 2, 3, 0, 1, 10, 0, 0, 1, 0);
    }

    @Says("If nobody in it has a card, nothing is done either.")
    private static void promise27_theLongerLineWithoutACardBlocksTheOther() {
        GateRow x = Due.row("row 1 1;gate both;card a 9;card b 9;wait 0 in a;tick 2;wait 0 out a;wait 0 in;wait 0 in;");
        Due.equal("the shorter line is not served", x.tick(99), 0);
        Due.equal("no opening but the first", x.gate(0, 7), 1);
        x.leave(0, 0, 0);
        Due.equal("lines of one each, open for 0 last", x.tick(2), 1);
    }

    @Says("Otherwise the first one with a card comes to the front (the others keep their order).")
    private static void promise27_theOthersKeepTheirOrder() {
        GateRow x = Due.row("row 1 1;gate in;card a 9;card b 9;card c 9;"
                + "wait 0 in;wait 0 in;wait 0 in c;wait 0 in a;wait 0 in;wait 0 in b;");
        x.tick(1);
        Rows.lines("c in front", x, 0, 0, 2, -1, -1, 0, -1, 1);
        x.tick(2);
        Rows.lines("a in front", x, 0, 0, 0, -1, -1, -1, 1);
        x.tick(2);
        Rows.lines("b in front", x, 0, 0, 1, -1, -1, -1);
        GateRow y = Due.row("row 1 1;gate in;card a 9;card b 9;wait 0 in;wait 0 in a;wait 0 in b;tick 1;");
        Rows.lines("the second one in front", y, 0, 0, 0, -1, 1);
        GateRow z = Due.row("row 1 1;gate in;card a 9;card b 9;wait 0 in b;wait 0 in a;wait 0 in;tick 1;");
        Rows.lines("the first one stays in front", z, 0, 0, 1, 0, -1);
    }

    @Says("of lines of the same length that which it did not open for last (the side 0 if it did not open yet)")
    private static void promise27_linesOfTheSameLength() {
        GateRow x = Due.row("row 1 1;gate both;gate in;card a 9;card b 9;card c 9;card d 9;"
                + "wait 1 in a;tick 2;wait 1 in b;tick 2;wait 0 out a;wait 0 in c;tick 1;");
        Due.equal("not open yet: the side 0", x.gate(0, 2), 0);
        x.tick(1);
        x.join(0, 0, 3);
        x.tick(1);
        Due.equal("open for 0 last: the side 1", x.gate(0, 2), 1);
        x.tick(1);
        x.join(0, 1, 1);
        x.tick(1);
        Due.equal("open for 1 last: the side 0", x.gate(0, 2), 0);
    }

    @Says("(on the side 1 the people inside are one less then; their card stays as it is)")
    private static void promise27_whoIsRefusedGoesAway() {
        GateRow x = Due.row("row 9 1;gate both;card a 9;card b 0;wait 0 in a;wait 0 in;tick 10;list a;wait 0 out a;wait 0 out;tick 1;");
        Rows.states("one away inside", x, 1, 2, 9, 1, 11, 1, 1, 0, 0, 2, 0, 1, 1, 0, 0, 0);
        Rows.cards("a as it was", x, 0, 8, 1, 1, -1, -1, -1, 1);
        Rows.lines("who stood behind", x, 0, 1, -1);
        x.leave(0, 1, 0);
        x.join(0, 0, NONE);
        x.join(0, 0, 1);
        Due.equal("b without a trip goes away", x.tick(1), 0);
        Rows.states("one away outside", x, 1, 2, 9, 1, 12, 1, 1, 0, 0, 2, 0, 1, 2, 0, 0, 0);
        Rows.cards("b as it was", x, 1, 0, 0, 0, -1, -1, -1, 0);
        Rows.gates("and nothing opens", x, 0, 2, 0, -1, 0, 1, 0, 1, 1, 0);
    }

    @Says("If their card is refused, they go away")
    private static void promise27_whoGoesAwayFromBehindLeavesTheOrder() {
        GateRow x = Due.row("row 9 1;gate in;card a 0;card b 0;card c 0;wait 0 in;wait 0 in b;wait 0 in;wait 0 in a;wait 0 in c;");
        x.tick(1);
        Rows.lines("b went", x, 0, 0, -1, -1, 0, 2);
        x.tick(1);
        Rows.lines("a went", x, 0, 0, -1, -1, 2);
        x.tick(9);
        Rows.lines("c went", x, 0, 0, -1, -1);
        Due.equal("three went", x.state(12), 3);
    }

    @Says("If their card is refused, they go away")
    private static void promise27_oneGoesAwayInATick() {
        GateRow x = Due.row("row 9 1;gate in;card a 0;card b 0;card c 1;wait 0 in a;wait 0 in b;wait 0 in c;");
        for (int away = 1; away <= 2; away++) {
            x.tick(1);
            Due.equal("away", x.state(12), away);
            Due.equal("closed", x.gate(0, 1), 0);
        }
        x.tick(1);
        Due.equal("c opens", x.gate(0, 1), 9);
    }

    // Promise 28: undo

    @Says("-1 if there was none to undo, and nothing changes then")
    private static void promise28_noneToUndo() {
        GateRow x = new GateRow();
        long before = x.checksum();
        Due.equal("new", x.undo(), -1);
        Due.equal("and again", x.undo(), -1);
        Due.equal("nothing changed", x.checksum(), before);
        x.tick(1);
        Due.equal("one", x.undo(), 0);
        Due.equal("none", x.undo(), -1);
        Due.equal("as before", x.checksum(), before);
    }

    @Says({"The latest 8 changes can be undone, the latest one first",
        "Returns the number of changes that can still be undone"})
    private static void promise28_eightChanges() {
        GateRow x = new GateRow();
        List<Long> sums = new ArrayList<>();
        for (int n = 0; n < 8; n++) {
            sums.add(x.checksum());
            x.tick(n + 1);
        }
        for (int left = 7; left >= 0; left--) {
            Due.equal("undo", x.undo(), left);
            Due.equal("as it was", x.checksum(), sums.get(left));
        }
        Due.equal("none left", x.undo(), -1);
    }

    @Says("a change is final as soon as 8 later ones, none of them undone, have been made")
    private static void promise28_theNinthMakesTheFirstFinal() {
        GateRow x = new GateRow();
        x.tick(1);
        long first = x.checksum();
        for (int n = 2; n <= 9; n++) {
            x.tick(n);
        }
        for (int left = 7; left >= 0; left--) {
            Due.equal("undo", x.undo(), left);
        }
        Due.equal("the first one is final", x.undo(), -1);
        Due.equal("and stays", x.checksum(), first);
    }

    @Says("a change is final as soon as 8 later ones, none of them undone, have been made")
    private static void promise28_undoneOnesDoNotMakeFinal() {
        GateRow x = new GateRow();
        long before = x.checksum();
        for (int n = 1; n <= 8; n++) {
            x.tick(n);
        }
        for (int round = 0; round < 20; round++) {
            Due.equal("undo", x.undo(), 7);
            Due.equal("undo", x.undo(), 6);
            Due.equal("undo", x.undo(), 5);
            x.tick(97);
            x.tick(98);
            x.tick(99);
        }
        for (int left = 7; left >= 0; left--) {
            Due.equal("undo", x.undo(), left);
        }
        Due.equal("the first one was not final", x.checksum(), before);
    }

    @Says("a change is final as soon as 8 later ones, none of them undone, have been made")
    private static void promise28_whatIsFinalStaysFinal() {
        GateRow x = new GateRow();
        for (int n = 1; n <= 10; n++) {
            x.tick(n);
        }
        for (int left = 7; left >= 4; left--) {
            Due.equal("undo", x.undo(), left);
        }
        x.tick(50);
        x.tick(51);
        for (int left = 5; left >= 0; left--) {
            Due.equal("undo", x.undo(), left);
        }
        Due.equal("two are final", x.undo(), -1);
        Due.equal("their ticks", x.state(4), 1 + 2);
    }

    @Says("Undoes the latest change that is not final and has not been undone.")
    private static void promise28_manyChangesAndUndos() {
        GateRow x = new GateRow();
        List<Long> sums = new ArrayList<>();
        for (int n = 1; n <= 200; n++) {
            if (n % 7 < 5) {
                sums.add(x.checksum());
                if (sums.size() > 8) {
                    sums.remove(0);
                }
                x.tick(1 + n % 99);
            } else {
                long wanted = sums.remove(sums.size() - 1);
                Due.equal("undo", x.undo(), sums.size());
                Due.equal("as it was", x.checksum(), wanted);
            }
        }
    }

    @Says("each such call that does not throw an exception is a change, also if all data stay as they were")
    private static void promise28_changesThatChangeNothing() {
        GateRow x = Due.row("row 3 2;gate in;card a 1;");
        long before = x.checksum();
        x.list(0, false);
        x.mode(0, 0);
        Due.load(x, "row 3 2;gate in;card a 1;");
        Due.equal("all data are as they were", x.checksum(), before);
        Due.equal("the load", x.undo(), 3);
        Due.equal("the mode", x.undo(), 2);
        Due.equal("the list", x.undo(), 1);
        Due.equal("nothing changed by undoing them", x.checksum(), before);
        Due.equal("the first load", x.undo(), 0);
        Due.equal("as new", x.checksum(), new GateRow().checksum());
    }

    @Says("each such call that does not throw an exception is a change, also if all data stay as they were")
    private static void promise28_aRefusedJoinIsAChange() {
        GateRow x = Due.row("row 3 2;gate in;card a 1;");
        x.join(0, 1, 0);
        x.join(0, 1, NONE);
        Due.equal("two were refused", x.state(13), 2);
        Due.equal("the second one", x.undo(), 2);
        Due.equal("one was refused", x.state(13), 1);
        Due.equal("the first one", x.undo(), 1);
        Due.equal("none was refused", x.state(13), 0);
    }

    @Says("The changing methods are load (when it succeeds), join, leave, list, charge, mode, key and tick")
    private static void promise28_eachChangingMethod() {
        GateRow x = Due.row("row 3 2;gate both;card a 1;wait 0 in;");
        Runnable[] changes = {() -> x.join(0, 0, 0), () -> x.leave(0, 0, 1), () -> x.list(0, true),
            () -> x.charge(0, 1), () -> x.mode(0, 0), () -> x.key(0), () -> x.tick(1),
            () -> Due.load(x, "row 1 1;gate out;gate in;card b 2;")};
        List<Long> sums = new ArrayList<>();
        for (Runnable each : changes) {
            sums.add(x.checksum());
            each.run();
        }
        for (int left = 7; left >= 0; left--) {
            Due.equal("undo", x.undo(), left);
            Due.equal("as ahead of the change " + left, x.checksum(), sums.get(left));
        }
        Due.buffer(x, "a");
        Due.equal("its name is back", x.find(1), 0);
    }

    @Says("The changing methods are load (when it succeeds), join, leave, list, charge, mode, key and tick")
    private static void promise28_aFailingLoadAndQuestionsAreNoChanges() {
        GateRow x = Due.row("row 3 2;gate both;card a 1;wait 0 in a;");
        x.tick(7);
        Due.load(x, "row 1 1;gate");
        Due.load(x, "");
        x.append(0, 0, 0, 0, 0);
        x.find(1);
        x.whyNotJoin(0, 1, NONE);
        x.throughIn(0);
        x.insideIn(200);
        x.followersIn(200);
        x.outInPanic();
        x.bestGate(0);
        x.nextSide(0);
        x.ranked(0);
        x.gap();
        x.followerShare();
        x.checksum();
        Due.equal("the tick is the latest change", x.undo(), 1);
        Due.equal("it is undone", x.state(4), 0);
    }

    @Says("A method that throws an exception changes nothing.")
    private static void promise28_callsThatThrowAreNoChanges() {
        GateRow x = Due.row("row 9 2;gate both;card a 99;wait 0 in a;tick 1;");
        x.key(0);
        Due.refused(x, "load", ARGUMENT, () -> x.load(1));
        Due.refused(x, "join", INDEX, () -> x.join(0, 0, 1));
        Due.refused(x, "join", ARGUMENT, () -> x.join(0, 2, 0));
        Due.refused(x, "leave", ELEMENT, () -> x.leave(0, 0, 1));
        Due.refused(x, "leave", STATE, () -> x.leave(0, 0, 0));
        Due.refused(x, "list", INDEX, () -> x.list(1, true));
        Due.refused(x, "charge", ARGUMENT, () -> x.charge(0, 0));
        Due.refused(x, "charge", STATE, () -> x.charge(0, 1));
        Due.refused(x, "mode", ARGUMENT, () -> x.mode(0, 3));
        Due.refused(x, "mode", STATE, () -> x.mode(0, 2));
        Due.refused(x, "key", ARGUMENT, () -> x.key(3));
        Due.refused(x, "tick", ARGUMENT, () -> x.tick(0));
        Due.equal("the key is the latest change", x.undo(), 1);
        Due.equal("it is undone", x.state(8), 0);
    }

    @Says("The input buffer and the error offset are not affected.")
    private static void promise28_theBufferAndTheErrorOffset() {
        GateRow x = Due.row("row 3 2;card row 1;");
        Due.load(x, "row 3 5;");
        Due.equal("an error", x.errorOffset(), 6);
        x.tick(1);
        Due.buffer(x, "row 1 1;");
        x.undo();
        Due.equal("the error offset stays", x.errorOffset(), 6);
        Due.equal("the buffer stays", x.find(3), 0);
        Due.equal("it has its 20 bytes", x.append(0, 0, 0, 0, 0), 40);
        x.undo();
        Due.equal("the error offset stays also behind the load", x.errorOffset(), 6);
        Due.equal("and the buffer", x.load(8), 0);
        Due.equal("right", x.errorOffset(), -1);
        x.undo();
        Due.equal("right yet", x.errorOffset(), -1);
    }

    // Promise 29: checksum

    /** What the checksum is made of, as the methods of the face tell it. */
    private static List<Integer> numbersOf(GateRow x) {
        List<Integer> all = new ArrayList<>();
        for (int what = 0; what <= 15; what++) {
            all.add(x.state(what));
        }
        for (int g = 0; g < x.state(0); g++) {
            for (int what = 0; what <= 8; what++) {
                all.add(x.gate(g, what));
            }
            for (int side = 0; side <= 1; side++) {
                for (int place = 0; place < x.gate(g, 4 + side); place++) {
                    all.add(x.inLine(g, side, place));
                }
            }
        }
        for (int c = 0; c < x.state(1); c++) {
            for (int what = 0; what <= 6; what++) {
                all.add(x.card(c, what));
            }
        }
        return all;
    }

    /** Counted without any overflow, and cut to a long at the end alone. */
    private static long wrapped(List<Integer> numbers) {
        BigInteger sum = BigInteger.ZERO;
        for (int n : numbers) {
            sum = sum.multiply(BigInteger.valueOf(31)).add(BigInteger.valueOf(n));
        }
        return sum.longValue();
    }

    @Says("It starts at 0; each number n in the following order replaces it by 31 * checksum + n")
    private static void promise29_noGatesAndNoCards() {
        GateRow x = new GateRow();
        Due.equal("16 numbers", numbersOf(x).size(), 16);
        Due.equal("their checksum", x.checksum(), wrapped(numbersOf(x)));
    }

    @Says("wrapping around on overflow of a long")
    private static void promise29_wrapsAround() {
        GateRow x = Rows.full();
        Due.equal("all numbers", numbersOf(x).size(), 16 + 6 * 9 + 120 + 12 * 7);
        Due.equal("full lines", x.checksum(), wrapped(numbersOf(x)));
        boolean isNegative = false;
        boolean isPositive = false;
        for (int n = 0; n < 20; n++) {
            long sum = x.checksum();
            Due.equal("wrapped", sum, wrapped(numbersOf(x)));
            isNegative |= sum < 0;
            isPositive |= sum > 0;
            x.tick(1);
        }
        Due.equal("some are negative", isNegative ? 1 : 0, 1);
        Due.equal("some are not", isPositive ? 1 : 0, 1);
    }

    @Says({"then the cards of its lines, that of the side 0 first, from the first place on",
        "for each card what card(int, int) tells of it for 0 to 6"})
    private static void promise29_emptyLinesAndPeopleWithoutACard() {
        GateRow x = Due.row("row 3 2;gate both;gate in;card a 1;card b 2;");
        Due.equal("empty lines", x.checksum(), wrapped(numbersOf(x)));
        x.join(0, 0, 1);
        x.join(0, 0, NONE);
        x.join(1, 0, 0);
        Due.equal("one without a card", x.checksum(), wrapped(numbersOf(x)));
        x.tick(2);
        x.join(0, 1, 1);
        Due.equal("both sides", x.checksum(), wrapped(numbersOf(x)));
        Due.equal("asking changes nothing", x.checksum(), x.checksum());
    }
}
