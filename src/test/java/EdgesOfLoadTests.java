import java.io.IOException;
import java.math.BigInteger;

/** A test for each sentence that names a boundary case: promises 1 to 4, and the setup text. */
public final class EdgesOfLoadTests {
    private static final Class<IllegalArgumentException> ARGUMENT = IllegalArgumentException.class;
    private static final int SYNTAX = GateRow.SYNTAX_ERROR;
    private static final int RANGE = GateRow.OUT_OF_RANGE;
    private static final int NAME = GateRow.NAME_ERROR;
    private static final int MANY = GateRow.TOO_MANY;
    private static final int REFUSED = GateRow.REFUSED;

    private static final String SIX_GATES = "row 3 2;gate in;gate in;gate in;gate in;gate in;gate in;";
    private static final String TWELVE_CARDS = "row 3 2;card a 1;card b 1;card c 1;card d 1;card e 1;card f 1;"
            + "card g 1;card h 1;card i 1;card j 1;card k 1;card l 1;";
    private static final String BUSY = "row 2 1;gate both;gate out;card a 9;card b 9;list b;wait 0 in a;wait 0 in;"
            + "tick 3;wait 1 out;key 1;";

    public static void main(String[] args) throws IOException {
        Promises.runQuoting(EdgesOfLoadTests.class, 1, 4);
        Due.end("EdgesOfLoadTests");
    }

    private static String times(int count, String part) {
        return part.repeat(count);
    }

    private static String fillUp(String text, String part, int length) {
        return text + part.repeat((length - text.length()) / part.length());
    }

    // Promise 1

    @Says("Creates an object as by the text \"row 3 2;\"")
    private static void promise1_allIsAsByTheText() {
        GateRow x = new GateRow();
        Rows.states("new", x, 0, 0, 3, 2, 0, 0, 0, 0, 0, 0, 0, 0, 0, 0, 0, 0);
        Due.equal("as loaded", x.checksum(), Due.row("row 3 2;").checksum());
    }

    @Says("with an empty input buffer")
    private static void promise1_theBufferIsEmpty() {
        GateRow x = new GateRow();
        Due.refused(x, "find(1)", ARGUMENT, () -> x.find(1));
        Due.refused(x, "load(1)", ARGUMENT, () -> x.load(1));
        Due.equal("find(0)", x.find(0), -1);
        Due.equal("the first 20 bytes", x.append(0, 0, 0, 0, 0), 20);
    }

    @Says("An object is used for at most 512 calls after it has been made")
    private static void promise1_the512thCallIsAnsweredToo() {
        GateRow x = new GateRow();
        for (int call = 1; call <= 511; call++) {
            Due.equal("call " + call, x.tick(99), 0);
        }
        Due.equal("call 512", x.state(4), 511 * 99);
    }

    // Promise 2

    @Says("Returns the new length of the buffer")
    private static void promise2_anEmptyBufferHas20BytesThen() {
        GateRow x = new GateRow();
        Due.equal("the first 20", x.append(-1, -1, -1, -1, -1), 20);
        Due.equal("the next 20", x.append(-1, -1, -1, -1, -1), 40);
    }

    @Says({"-1 if it would exceed 500 bytes", "The setup text is read from an input buffer of at most 500 bytes."})
    private static void promise2_exactly500BytesDoNotExceed() {
        GateRow x = new GateRow();
        Due.equal("480 bytes", Due.buffer(x, times(480, " ")), 480);
        Due.equal("500 bytes", x.append(0, 0, 0, 0, 0), 500);
        Due.equal("none beyond", x.append(0, 0, 0, 0, 0), -1);
        Due.equal("and none again", x.append(0, 0, 0, 0, 0), -1);
    }

    @Says("and the buffer is unchanged then")
    private static void promise2_aFullBufferIsUnchanged() {
        GateRow x = new GateRow();
        Due.buffer(x, fillUp("row 4 4;", "tick 1;key 0;tick 9;", 488) + "            ");
        Due.equal("no more", x.append(0x21212121, 0x21212121, 0x21212121, 0x21212121, 0x21212121), -1);
        Due.refused(x, "its length stays 500", ARGUMENT, () -> x.find(501));
        Due.equal("its bytes stay", x.load(500), 0);
        Due.equal("all of them were read", x.state(4), 24 * 10);
    }

    @Says("Appends 20 bytes to the input buffer: the 4 bytes of each argument, the most significant byte first.")
    private static void promise2_theFirstAndTheLastByteOfEachArgument() {
        GateRow x = new GateRow();
        x.append(0x726f7739, 0x20202034, 0x3b746963, 0x6b323b74, 0x69636b37);
        x.append(0x3b202020, 0, 0, 0, 0);
        Due.equal("row9   4;tick2;tick7;", x.load(21), 0);
        Rows.states("read", x, 0, 0, 9, 4, 9);
    }

    @Says("Appends 20 bytes to the input buffer: the 4 bytes of each argument, the most significant byte first.")
    private static void promise2_bytesAbove127AreKept() {
        for (int at = 0; at < 20; at++) {
            GateRow x = new GateRow();
            int[] w = {0x20202020, 0x20202020, 0x20202020, 0x20202020, 0x20202020};
            w[at / 4] |= 0x80 << (24 - 8 * (at % 4));
            x.append(w[0], w[1], w[2], w[3], w[4]);
            Due.equal("a byte 160", x.load(20), SYNTAX);
            Due.equal("its offset", x.errorOffset(), at);
        }
    }

    // Promise 3: the length

    @Says("if length is negative or greater than the length of the buffer; the buffer is unchanged then")
    private static void promise3_aLengthBelow0() {
        GateRow x = Due.row("row 3 2;card row 1;");
        Due.buffer(x, "row 1 1;gate in;");
        Rows.refuseAll(x, "load", ARGUMENT, x::load, -1, -2, -20, Rows.MIN);
        Due.equal("the buffer stays", x.find(3), 0);
        Due.equal("and can be read", x.load(16), 1);
    }

    @Says("if length is negative or greater than the length of the buffer; the buffer is unchanged then")
    private static void promise3_aLengthAboveThatOfTheBuffer() {
        GateRow x = Due.row("row 3 2;card row 1;");
        Rows.refuseAll(x, "load of an empty buffer", ARGUMENT, x::load, 1, 20, 500, Rows.MAX);
        Due.buffer(x, "row 1 1;gate in;");
        Rows.refuseAll(x, "load", ARGUMENT, x::load, 21, 40, 500, 501, Rows.MAX);
        Due.equal("the buffer stays", x.find(3), 0);
        Due.equal("and can be read", x.load(16), 1);
    }

    @Says("if length is negative or greater than the length of the buffer; the buffer is unchanged then")
    private static void promise3_aFullBufferHasNot501Bytes() {
        GateRow x = new GateRow();
        Due.buffer(x, fillUp("row 1 1;", " ", 500));
        Due.refused(x, "load(501)", ARGUMENT, () -> x.load(501));
        Due.equal("load(500)", x.load(500), 0);
    }

    @Says("Reads the first bytes of the input buffer as a setup text")
    private static void promise3_allBytesOfTheBuffer() {
        GateRow x = new GateRow();
        Due.buffer(x, "row 1 1;gate in;key1");
        Due.equal("20 of 20, the text ends too early", x.load(20), SYNTAX);
        Due.equal("at its length", x.errorOffset(), 20);
        Due.buffer(x, "row 1 1;gate in;   ;");
        Due.equal("19 of 20", x.load(19), 1);
    }

    @Says("Reads the first bytes of the input buffer as a setup text")
    private static void promise3_bytesBehindTheLengthAreNotRead() {
        String[] texts = {"row 3 2|5;", "row 3 2|;", "row 3 2|   ;", "row 3 2;gate in|n;", "row 3 2;card abcdef|g 1;",
            "row 3 2;tick 1|00;", "row 3 2;gate in;wait 0 in|;", "row 3 2;card a 1;list a|b;", "row 3 2;key 0| 0;"};
        for (String text : texts) {
            GateRow x = new GateRow();
            Due.buffer(x, text.replace("|", ""));
            Due.equal("too early: " + text, x.load(text.indexOf('|')), SYNTAX);
            Due.equal("at its length: " + text, x.errorOffset(), text.indexOf('|'));
        }
        GateRow x = new GateRow();
        Due.buffer(x, "row 3 2;;");
        Due.equal("nor one byte more", x.load(8), 0);
    }

    @Says("An empty text has a SYNTAX_ERROR.")
    private static void promise3_anEmptyText() {
        GateRow x = new GateRow();
        Due.equal("of an empty buffer", x.load(0), SYNTAX);
        Due.equal("its offset", x.errorOffset(), 0);
        Due.buffer(x, "row 1 1;");
        Due.equal("of a buffer with bytes", x.load(0), SYNTAX);
        Due.equal("its offset", x.errorOffset(), 0);
    }

    @Says("The input buffer is empty afterwards, also if the text has an error.")
    private static void promise3_theBufferIsEmptyAfterwards() {
        String[] texts = {"row 1 1;gate in;", "row 1 1;gate on;", "!", ""};
        for (String text : texts) {
            GateRow x = new GateRow();
            Due.buffer(x, fillUp(text, " ", 500));
            x.load(text.length());
            Due.refused(x, "find(1) after '" + text + "'", ARGUMENT, () -> x.find(1));
            Due.refused(x, "load(1) after '" + text + "'", ARGUMENT, () -> x.load(1));
            Due.equal("append after '" + text + "'", x.append(0, 0, 0, 0, 0), 20);
        }
    }

    @Says("An error leaves all other data unchanged.")
    private static void promise3_anErrorAtTheEndLeavesAllAsItWas() {
        GateRow x = Due.row(BUSY);
        long before = x.checksum();
        String text = "row 9 4;gate in;card c 1;card d 1;list c;wait 0 in d;tick 2;key 0;key 2;";
        String[] ends = {"gate", "gate;", "tick 0;", "list b;", "wait 0 out;", "!"};
        for (String end : ends) {
            Due.equal("an error", Due.load(x, text + end) < 0 ? 1 : 0, 1);
            Due.equal("all is as it was after " + end, x.checksum(), before);
        }
        Due.buffer(x, "bc");
        Due.equal("names too", x.find(1), 1);
        Due.equal("and no new name", x.find(2), -1);
        Due.equal("nothing but the first load can be undone", x.undo(), 0);
    }

    @Says("An error leaves all other data unchanged.")
    private static void promise3_anErrorDoesNotShowInTheNextText() {
        GateRow x = new GateRow();
        Due.equal("6 gates and 12 cards, and an error", Due.load(x, SIX_GATES + TWELVE_CARDS.substring(8) + "!"), SYNTAX);
        Due.equal("a text with a gate", Due.load(x, "row 3 2;gate in;card a 1;wait 0 in a;"), 1);
        Due.equal("is as by a new object", x.checksum(), Due.row("row 3 2;gate in;card a 1;wait 0 in a;").checksum());
    }

    @Says("Returns the number of gates")
    private static void promise3_noGateUpTo6() {
        for (int gates = 0; gates <= 6; gates++) {
            Due.right("row 3 2;" + times(gates, "gate both;"), gates);
        }
    }

    @Says("replaces all data by it, statement by statement")
    private static void promise3_nothingOfTheDataBeforeIsLeft() {
        GateRow x = Due.row(BUSY);
        Due.equal("no gates", Due.load(x, "row 3 2;"), 0);
        Due.equal("as a new object", x.checksum(), new GateRow().checksum());
        Due.buffer(x, "a");
        Due.equal("no name is left", x.find(1), -1);
        Due.load(x, BUSY);
        Due.equal("an earlier name is not known", Due.load(x, "row 3 2;list a;"), NAME);
        Due.equal("and may be told again", Due.load(x, "row 3 2;card a 1;"), 0);
    }

    @Says("Before the first successful load all is as by the text \"row 3 2;\".")
    private static void promise3_afterAFailingLoadAllIsAsBefore() {
        GateRow x = new GateRow();
        Due.load(x, "row 9 4;gate in;gate");
        Due.load(x, "row 9 4;tick 9");
        Rows.states("no load yet", x, 0, 0, 3, 2, 0, 0, 0, 0, 0, 0, 0, 0, 0, 0, 0, 0);
    }

    @Says("The setup text is read from an input buffer of at most 500 bytes.")
    private static void promise3_aTextOf500Bytes() {
        String ticks = fillUp("row 3 2; gate in;", "tick 9;", 500);
        Due.equal("its length", ticks.length(), 500);
        GateRow x = Due.row(ticks);
        Due.equal("all is read", x.state(4), 69 * 9);
        Due.right(fillUp("row 3 2;", " ", 500), 0);
        Due.wrong(ticks.substring(0, 499) + ",", SYNTAX, 499);
        Due.wrong(ticks.substring(0, 499) + " ", SYNTAX, 500);
    }

    // Promise 3: the grammar

    /**
     * The kinds of the tokens: K a certain word, N a number, A a name, S a semicolon, L a name or a
     * semicolon.
     */
    private static final String KINDS = "KNNSKKSKANSKALLLKNKLSKNSKNS";
    private static final String[] TOKENS = {"row", "3", "2", ";", "gate", "both", ";", "card", "a", "9", ";", "list",
        "a", "a", "a", ";", "wait", "0", "in", "a", ";", "tick", "9", ";", "key", "2", ";"};

    private static String firstTokens(int count) {
        StringBuilder text = new StringBuilder();
        for (int n = 0; n < count; n++) {
            text.append(n == 0 ? "" : " ").append(TOKENS[n]);
        }
        return text.toString();
    }

    @Says("the end of the text, at its length, if the text ends too early")
    private static void promise3_aTextThatEndsBehindAnyToken() {
        for (int count = 0; count <= TOKENS.length; count++) {
            String text = firstTokens(count);
            if (text.endsWith(";")) {
                Due.right(text, count > 6 ? 1 : 0);
            } else {
                Due.wrong(text, SYNTAX, text.length());
                Due.wrong(text + "   ", SYNTAX, text.length() + 3);
            }
        }
    }

    @Says("SYNTAX_ERROR: a token or byte that the grammar does not allow here, at its first byte")
    private static void promise3_atAnyPlaceATokenThatIsNotAllowed() {
        for (int count = 0; count < TOKENS.length; count++) {
            String text = firstTokens(count) + " ";
            char kind = KINDS.charAt(count);
            Due.wrong(text + "!", SYNTAX, text.length());
            Due.wrong(text + "! ;", SYNTAX, text.length());
            if (kind != 'N') {
                Due.wrong(text + "77;", SYNTAX, text.length());
            }
            if (kind != 'S' && kind != 'L') {
                Due.wrong(text + ";", SYNTAX, text.length());
            }
            if (kind != 'A' && kind != 'L') {
                Due.wrong(text + "inn;", SYNTAX, text.length());
                Due.wrong(text + "kbhsymwabc;", SYNTAX, text.length());
            }
        }
    }

    @Says("SYNTAX_ERROR: a token or byte that the grammar does not allow here, at its first byte")
    private static void promise3_wordsOfTheGrammarWhereItAsksForOthers() {
        String[] words = {"row", "gate", "card", "list", "wait", "tick", "key", "in", "out", "both"};
        for (String word : words) {
            if (!word.equals("row")) {
                Due.wrong(word + " 3 2;", SYNTAX, 0);
            }
            if (!"gate card list wait tick key".contains(word)) {
                Due.wrong("row 3 2;" + word + " 1;", SYNTAX, 8);
            }
            if (!"in out both".contains(word)) {
                Due.wrong("row 3 2;gate " + word + ";", SYNTAX, 13);
            }
            if (!"in out".contains(word)) {
                Due.wrong("row 3 2;gate both;wait 0 " + word + ";", SYNTAX, 25);
            }
        }
    }

    @Says("setup     = \"row\" number number \";\" { statement \";\" }")
    private static void promise3_noStatementAtAll() {
        Due.right("row 3 2;", 0);
        Due.wrong("row 3 2;;", SYNTAX, 8);
        Due.wrong("row 3 2;gate in;;", SYNTAX, 16);
        Due.wrong("row 3 2;row 3 2;", SYNTAX, 8);
    }

    @Says("\"list\" name { name }")
    private static void promise3_aListOfNoneOfOneAndOfMany() {
        Due.wrong("row 3 2;card a 1;list;", SYNTAX, 21);
        GateRow x = Due.row("row 3 2;card a 1;card b 1;list b;");
        Rows.cards("a", x, 0, 1, 0, 0);
        Rows.cards("b", x, 1, 1, 0, 1);
        GateRow all = Due.row(TWELVE_CARDS + "list a b c d e f g h i j k l a l;");
        for (int card = 0; card < 12; card++) {
            Rows.cards("listed", all, card, 1, 0, 1);
        }
    }

    @Says("\"wait\" number ( \"in\" | \"out\" ) [ name ]")
    private static void promise3_aWaitWithoutAndWithAName() {
        GateRow x = Due.row("row 3 2;gate in;card in 1;wait 0 in;wait 0 in in;wait 0 in;");
        Rows.lines("in", x, 0, 0, -1, 0, -1);
        Due.wrong("row 3 2;gate in;card a 1;card b 1;wait 0 in a b;", SYNTAX, 46);
    }

    @Says("A number is a run of decimal digits, of any length (leading zeros do not matter)")
    private static void promise3_aNumberOfAnyLength() {
        String zeros = "row " + times(480, "0");
        GateRow x = Due.row(zeros + "9 4;");
        Rows.states("480 zeros", x, 0, 0, 9, 4);
        Due.wrong("row " + times(490, "0") + " 1;", RANGE, 4);
        Due.wrong("row " + times(490, "9") + " 1;", RANGE, 4);
        Due.wrong("row 1" + times(480, "0") + " 1;", RANGE, 4);
        Due.wrong("row 3 " + times(480, "0") + "5;", RANGE, 6);
    }

    @Says("Each run is as long as possible.")
    private static void promise3_runsAreAsLongAsPossible() {
        Due.wrong("row 32;", RANGE, 4);
        Due.wrong("row 1 23;", RANGE, 6);
        Due.wrong("row 1 1;gatein;", SYNTAX, 8);
        Due.wrong("rowrow 1 1;", SYNTAX, 0);
        Due.wrong("row 1 1;card ab 1;list a b;", NAME, 23);
        Due.wrong("row 1 1;card abcdefghijkl 1;", RANGE, 13);
    }

    @Says({"A name is a word of 1 to 6 letters", "a name with more than 6 letters, at its first letter"})
    private static void promise3_namesOf1To7Letters() {
        for (int letters = 1; letters <= 6; letters++) {
            String name = times(letters, "z");
            GateRow x = Due.row("row 3 2;gate in;card " + name + " 5;list " + name + ";wait 0 in " + name + ";");
            Rows.cards("z", x, 0, 5, 0, 1, 0, 0, 0, 0);
        }
        Due.wrong("row 3 2;card zzzzzzz 1;", RANGE, 13);
        Due.wrong("row 3 2;card z 1;list z zzzzzzz;", RANGE, 24);
        Due.wrong("row 3 2;gate in;wait 0 in zzzzzzz;", RANGE, 26);
        Due.wrong("row 3 2;card " + times(480, "z") + " 1;", RANGE, 13);
    }

    @Says("a word is a run of the letters a to z")
    private static void promise3_lettersFromAToZ() {
        for (char letter = 'a'; letter <= 'z'; letter++) {
            Due.right("row 3 2;card " + letter + " 1;list " + letter + ";", 0);
        }
        for (char other : new char[] {'`', '{', 'A', 'Z', '@', '[', '_', '-', '\u00e1', '\u00ff'}) {
            Due.wrong("row 3 2;card " + other + " 1;", SYNTAX, 13);
            Due.wrong("row 3 2;card a" + other + " 1;", SYNTAX, 14);
        }
    }

    @Says("(any one, also one of the words above)")
    private static void promise3_namesThatAreWordsOfTheGrammar() {
        String[] words = {"row", "gate", "card", "list", "wait", "tick", "key", "in", "out", "both"};
        for (String word : words) {
            GateRow x = Due.row("row 3 2;gate in;card " + word + " 5;list " + word + ";wait 0 in " + word + ";");
            Rows.cards(word, x, 0, 5, 0, 1, 0, 0, 0, 0);
        }
    }

    @Says("Spaces (byte 32) may precede any token and may follow the last one")
    private static void promise3_noSpaceAndManySpaces() {
        Due.right("row3 2;gate both;card a9;list a a a;wait0in a;tick9;key2;", 1);
        StringBuilder text = new StringBuilder();
        for (String token : TOKENS) {
            text.append(times(10, " ")).append(token);
        }
        Due.right(text.toString() + times(20, " "), 1);
    }

    @Says("they are needed only between two numbers, and between two words")
    private static void promise3_whereSpacesAreNeeded() {
        Due.wrong("row 32;", RANGE, 4);
        Due.wrong("row 3 2;gatein;", SYNTAX, 8);
        Due.wrong("row 3 2;carda 1;", SYNTAX, 8);
        Due.wrong("row 3 2;card a 1;lista;", SYNTAX, 17);
        Due.wrong("row 3 2;gate in;card a 1;wait 0 ina;", SYNTAX, 32);
        Due.right("row3 2;gate in;card a1;card b1;list a b;wait0in a;tick1;key0;", 1);
    }

    @Says("No other byte separates tokens.")
    private static void promise3_eachOfThe256Bytes() {
        for (int b = 0; b < 256; b++) {
            boolean isDigit = b >= '0' && b <= '9';
            boolean isLetter = b >= 'a' && b <= 'z';
            String behindRow = "row" + (char) b + "3 2;";
            if (b == ' ' || b == '0') {
                Due.right(behindRow, 0);
            } else if (isDigit) {
                Due.wrong(behindRow, RANGE, 3);
            } else {
                Due.wrong(behindRow, SYNTAX, isLetter ? 0 : 3);
            }
            String atTheEnd = "row 3 2;" + (char) b;
            if (b == ' ') {
                Due.right(atTheEnd, 0);
            } else {
                Due.wrong(atTheEnd, SYNTAX, 8);
            }
        }
    }

    // Promise 3: ranges

    /** The least and the most of a range, their neighbours outside, and numbers that a counter could wrap around. */
    private static void ranged(String before, String after, int least, int most, int gates) {
        int at = before.length();
        for (int number = least; number <= most; number++) {
            Due.right(before + number + after, gates);
        }
        Due.right(before + "000" + least + after, gates);
        Due.right(before + "000" + most + after, gates);
        if (least > 0) {
            Due.wrong(before + (least - 1) + after, RANGE, at);
        }
        Due.wrong(before + (most + 1) + after, RANGE, at);
        Due.wrong(before + "000" + (most + 1) + after, RANGE, at);
        for (int bits = 7; bits <= 128; bits++) {
            BigInteger wrapped = BigInteger.ONE.shiftLeft(bits).add(BigInteger.valueOf(least));
            Due.wrong(before + wrapped + after, RANGE, at);
        }
        for (int zeros = 3; zeros <= 30; zeros++) {
            Due.wrong(before + "1" + times(zeros, "0") + after, RANGE, at);
        }
    }

    @Says({"The numbers of row are hold (1 to 9)", "OUT_OF_RANGE: a number outside its range"})
    private static void promise3_holdIs1To9() {
        ranged("row ", " 2;", 1, 9, 0);
        Due.equal("1", Due.row("row 1 2;").state(2), 1);
        Due.equal("9", Due.row("row 9 2;").state(2), 9);
    }

    @Says({"and flow (1 to 4)", "OUT_OF_RANGE: a number outside its range"})
    private static void promise3_flowIs1To4() {
        ranged("row 3 ", ";", 1, 4, 0);
        Due.equal("1", Due.row("row 3 1;").state(3), 1);
        Due.equal("4", Due.row("row 3 4;").state(3), 4);
    }

    @Says({"each with a name and trips (0 to 99)", "OUT_OF_RANGE: a number outside its range"})
    private static void promise3_tripsAre0To99() {
        ranged("row 3 2;card a ", ";", 0, 99, 0);
        Due.equal("0", Due.row("row 3 2;card a 0;").card(0, 0), 0);
        Due.equal("99", Due.row("row 3 2;card a 99;").card(0, 0), 99);
    }

    @Says({"tick lets 1 to 99 ticks pass", "OUT_OF_RANGE: a number outside its range"})
    private static void promise3_ticksAre1To99() {
        ranged("row 3 2;tick ", ";", 1, 99, 0);
        Due.equal("1", Due.row("row 3 2;tick 1;").state(4), 1);
        Due.equal("99", Due.row("row 3 2;tick 99;").state(4), 99);
    }

    @Says({"key turns a key (0 to 2), or turns it back", "OUT_OF_RANGE: a number outside its range"})
    private static void promise3_keysAre0To2() {
        ranged("row 3 2;key ", ";", 0, 2, 0);
        Due.equal("turned", Due.row("row 3 2;key 0;").state(8), 1);
        Due.equal("turned back", Due.row("row 3 2;key 2;key 2;").state(8), 0);
        Due.equal("all turned", Due.row("row 3 2;key 0;key 1;key 2;").state(8), 3);
    }

    @Says("(a gate that there is not, too), at its first digit")
    private static void promise3_aGateThatThereIsNot() {
        Due.wrong("row 3 2;wait 0 in;", RANGE, 13);
        Due.wrong("row 3 2;wait 0 in;gate in;", RANGE, 13);
        ranged("row 3 2;gate in;wait ", " in;", 0, 0, 1);
        ranged("row 3 2;gate in;gate in;gate in;wait ", " in;", 0, 2, 3);
        ranged(SIX_GATES + "wait ", " in;", 0, 5, 6);
    }

    // Promise 3: names, too many, refused, and which error counts

    @Says({"NAME_ERROR: a new name that a card has already", "Cards have different names."})
    private static void promise3_aNameToldTwice() {
        Due.wrong("row 3 2;card a 1;card a 1;", NAME, 22);
        Due.wrong("row 3 2;card abcdef 1;card b 1;card  abcdef 2;", NAME, 37);
        Due.wrong(TWELVE_CARDS.substring(0, 107) + "card a 1;", NAME, 112);
        Due.wrong(TWELVE_CARDS.substring(0, 107) + "card k 1;", NAME, 112);
        Due.right("row 3 2;card a 1;card aa 1;card aaa 1;card ab 1;card ba 1;card abcdef 1;card abcdeg 1;", 0);
    }

    @Says("or a name that none has, where one must have it, at its first letter")
    private static void promise3_aNameThatNoneHas() {
        Due.wrong("row 3 2;list a;", NAME, 13);
        Due.wrong("row 3 2;list a;card a 1;", NAME, 13);
        Due.wrong("row 3 2;card a 1;list a b;", NAME, 24);
        Due.wrong("row 3 2;card a 1;card b 1;list a b c b;", NAME, 35);
        Due.wrong("row 3 2;gate in;wait 0 in a;", NAME, 26);
        Due.wrong("row 3 2;gate in;card ab 1;wait 0 in   a;", NAME, 38);
        Due.wrong("row 3 2;gate in;card a 1;wait 0 in aa;", NAME, 35);
        Due.wrong("row 3 2;gate in;card in 1;wait 0 in out;", NAME, 36);
    }

    @Says({"There are at most 6 gates", "TOO_MANY: a 7th gate or a 13th card, at the first letter of the statement."})
    private static void promise3_the6thAndThe7thGate() {
        Due.right(SIX_GATES, 6);
        Due.wrong(SIX_GATES + "gate in;", MANY, 56);
        Due.wrong(SIX_GATES + "   gate both;", MANY, 59);
        Due.wrong(SIX_GATES + "card a 1;gate out;", MANY, 65);
        Due.equal("six of the mode 2", Due.load(new GateRow(), SIX_GATES.replace("in", "both")), 6);
    }

    @Says({"There are at most 12 cards", "TOO_MANY: a 7th gate or a 13th card, at the first letter of the statement."})
    private static void promise3_the12thAndThe13thCard() {
        Due.right(TWELVE_CARDS, 0);
        Due.equal("twelve", Due.row(TWELVE_CARDS).state(1), 12);
        Due.wrong(TWELVE_CARDS + "card m 1;", MANY, 116);
        Due.wrong(TWELVE_CARDS + "   card m 1;", MANY, 119);
        Due.wrong(TWELVE_CARDS + "gate in;card m 1;", MANY, 124);
        Due.wrong(TWELVE_CARDS + "card a 1;", MANY, 116);
        Due.wrong(TWELVE_CARDS + "card mmmmmmm 1;", MANY, 116);
        Due.wrong(TWELVE_CARDS + "card m 100;", MANY, 116);
    }

    @Says("REFUSED: wait that is refused as by the method join(int, int, int), at the first letter of \"in\" or \"out\"")
    private static void promise3_aWaitThatTheGateDoesNotServe() {
        Due.wrong("row 3 2;gate in;wait 0 out;", REFUSED, 23);
        Due.wrong("row 3 2;gate out;wait 0 in;", REFUSED, 24);
        Due.wrong("row 3 2;gate in;gate out;wait 1    in  ;", REFUSED, 35);
        Due.right("row 3 2;gate in;gate both;wait 0 in;wait 1 in;", 2);
    }

    @Says("REFUSED: wait that is refused as by the method join(int, int, int), at the first letter of \"in\" or \"out\"")
    private static void promise3_aWaitOfAnEleventhOne() {
        String ten = "row 3 2;gate in;" + times(10, "wait 0 in;");
        Due.right(ten, 1);
        Due.wrong(ten + "wait 0 in;", REFUSED, 123);
        Due.wrong(ten + "card a 1;wait 0 in a;", REFUSED, 132);
        Due.right(ten + "gate in;wait 1 in;", 2);
    }

    @Says("REFUSED: wait that is refused as by the method join(int, int, int), at the first letter of \"in\" or \"out\"")
    private static void promise3_aWaitOfACardThatIsInALine() {
        String head = "row 3 2;gate both;gate in;card a 1;wait 0 in a;";
        Due.wrong(head + "wait 0 in a;", REFUSED, 54);
        Due.wrong(head + "wait 1 in a;", REFUSED, 54);
        Due.wrong(head + "wait 0 out a;", REFUSED, 54);
        Due.right(head + "tick 2;wait 0 out a;", 2);
    }

    @Says("REFUSED: wait that is refused as by the method join(int, int, int), at the first letter of \"in\" or \"out\"")
    private static void promise3_aWaitInsideOfMoreThanThereAre() {
        Due.wrong("row 3 2;gate both;wait 0 out;", REFUSED, 25);
        String one = "row 3 2;gate both;gate out;card a 1;wait 0 in a;tick 2;wait 1 out;";
        Due.right(one, 2);
        Due.wrong(one + "wait 0 out a;", REFUSED, 73);
        Due.wrong(one + "wait 1 out;", REFUSED, 73);
    }

    @Says("(it is looked at when all ahead of the semicolon was right: an error of the card's name counts ahead of it)")
    private static void promise3_anErrorOfTheNameAheadOfTheRefusal() {
        Due.wrong("row 3 2;gate in;wait 0 out a;", NAME, 27);
        Due.wrong("row 3 2;gate in;wait 0 out abcdefg;", RANGE, 27);
    }

    @Says("The first error in the text is the one with the smallest offset.")
    private static void promise3_theSmallestOffsetCounts() {
        Due.wrong("row 0 0;", RANGE, 4);
        Due.wrong("row 0 x;", RANGE, 4);
        Due.wrong("row 3 2;list a ! key 3;", NAME, 13);
        Due.wrong("row 3 2;key 3;list a;!", RANGE, 12);
        Due.wrong("row 3 2;gate in;wait 0 out;key 3;!", REFUSED, 23);
        Due.wrong(SIX_GATES + "gate on;key 3;", MANY, 56);
        Due.wrong("row 3 2;card a 1;card a 100;", NAME, 22);
        Due.wrong("row 3 2;!list a;key 3;", SYNTAX, 8);
    }

    @Says("If several kinds of error have the same offset, the first one in this list counts:")
    private static void promise3_aLongUnknownNameIsOutOfRange() {
        Due.wrong("row 3 2;list abcdefg;", RANGE, 13);
        Due.wrong("row 3 2;gate in;wait 0 in abcdefg;", RANGE, 26);
    }

    @Says("OUT_OF_RANGE: a number outside its range (a gate that there is not, too), at its first digit")
    private static void promise3_offsetsBehindSpacesAndZeros() {
        Due.wrong("row    000010 2;", RANGE, 7);
        Due.wrong("row0 2;", RANGE, 3);
        Due.wrong("row 3 2;tick   0;", RANGE, 15);
        Due.wrong("row 3 2;gate in;wait    01 in;", RANGE, 24);
    }

    // Promise 4

    @Says("-1 if it found none or if there was no such call")
    private static void promise4_noCallYet() {
        GateRow x = new GateRow();
        Due.equal("new", x.errorOffset(), -1);
        Due.thrown("load(1)", ARGUMENT, () -> x.load(1));
        Due.thrown("load(-1)", ARGUMENT, () -> x.load(-1));
        Due.equal("only calls that threw", x.errorOffset(), -1);
    }

    @Says("-1 if it found none or if there was no such call")
    private static void promise4_noneFound() {
        GateRow x = new GateRow();
        Due.load(x, "row 3 5;");
        Due.equal("found", x.errorOffset(), 6);
        Due.load(x, "row 3 4;");
        Due.equal("none found", x.errorOffset(), -1);
    }

    @Says("by the latest call of load that did not throw")
    private static void promise4_aCallThatThrowsDoesNotCount() {
        GateRow x = new GateRow();
        Due.load(x, "row 3 5;");
        Due.thrown("load(1)", ARGUMENT, () -> x.load(1));
        Due.thrown("load(min)", ARGUMENT, () -> x.load(Rows.MIN));
        Due.equal("as by the call before", x.errorOffset(), 6);
        Due.load(x, "row 3");
        Due.equal("as by the latest one", x.errorOffset(), 5);
    }

    @Says("Returns the offset of the error found")
    private static void promise4_offsets0And500() {
        GateRow x = new GateRow();
        Due.load(x, "!");
        Due.equal("the least", x.errorOffset(), 0);
        Due.load(x, fillUp("row 3 2;key 0", " ", 500));
        Due.equal("the most", x.errorOffset(), 500);
    }
}
