/** The grammar of the setup text, its error codes and the offsets of its errors. */
public final class SetupTextTests {
    public static void main(String[] args) {
        Promises.run(SetupTextTests.class, 3, 3);
        Due.end("SetupTextTests");
    }

    private static void wrongAt(String text, int code, String part) {
        Due.wrong(text, code, text.lastIndexOf(part));
    }

    private static void promise3_rightTexts() {
        Due.right("row 3 2;", 0);
        Due.right("row1 1;", 0);
        Due.right("  row  9   4  ;  ", 0);
        Due.right("row 00000000000000000000009 0000004;", 0);
        Due.right("row 1 1;gate in;gate out;gate both;", 3);
        Due.right("row 1 1;gate in;gate in;gate in;gate in;gate in;gate in;", 6);
        Due.right("row 1 1;card a0;card b 99;card c00000000000000000099;list a;list a b c a;", 0);
        Due.right("row 1 1 ; gate in ; card a 1 ; wait 0 in a ; tick 99 ; key 2 ; key 0 ;", 1);
        Due.right("row 1 1;gate in;card a 1;wait0in a;tick1;key0;", 1);
        Due.right("row 1 1;card row 1;card in 2;card tick 3;list row in tick;gate in;wait 0 in in;wait 0 in tick;", 1);
        GateRow x = Due.row("row 8 4;gate both;card a 5;card b 6;list b;wait 0 in a;wait 0 in;tick 3;wait 0 out;key 1;key 1;key 2;");
        Due.equal("hold", x.state(2), 8);
        Due.equal("flow", x.state(3), 4);
        Due.equal("keys", x.state(8), 1);
        Due.equal("inside", x.state(5), 2);
        Due.equal("in line", x.gate(0, 5), 1);
        Due.equal("b listed", x.card(1, 2), 1);
        Due.equal("a went in", x.card(0, 1), 1);
        GateRow p = Due.row("row 1 1;gate both;card a 5;wait 0 in a;tick 2;wait 0 out a;key 0;key 1;tick 1;");
        Due.equal("a panic of the text", p.state(14), 1);
    }

    private static void promise3_syntaxErrors() {
        int code = GateRow.SYNTAX_ERROR;
        Due.wrong("", code, 0);
        Due.wrong("     ", code, 5);
        Due.wrong("row", code, 3);
        Due.wrong("row  ", code, 5);
        Due.wrong("row 3 2", code, 7);
        Due.wrong("row 3 2  ", code, 9);
        Due.wrong("row 3;", code, 5);
        Due.wrong("row a 2;", code, 4);
        Due.wrong("rows 3 2;", code, 0);
        Due.wrong("ro 3 2;", code, 0);
        Due.wrong("gate in;", code, 0);
        Due.wrong(" ;", code, 1);
        Due.wrong("row 3 2;;", code, 8);
        Due.wrong("row 3 2 2;", code, 8);
        Due.wrong("row 3 2;row 3 2;", code, 8);
        Due.wrong("row 3 2;gate", code, 12);
        Due.wrong("row 3 2;gate;", code, 12);
        Due.wrong("row 3 2;gate inn;", code, 13);
        Due.wrong("row 3 2;gatein;", code, 8);
        Due.wrong("row 3 2;gate in out;", code, 16);
        Due.wrong("row 3 2;gate in", code, 15);
        Due.wrong("row 3 2;gate 2;", code, 13);
        Due.wrong("row 3 2;card;", code, 12);
        Due.wrong("row 3 2;card 1;", code, 13);
        Due.wrong("row 3 2;card a;", code, 14);
        Due.wrong("row 3 2;card a b;", code, 15);
        Due.wrong("row 3 2;card a 1 1;", code, 17);
        Due.wrong("row 3 2;list;", code, 12);
        Due.wrong("row 3 2;card a 1;list a 1;", code, 24);
        Due.wrong("row 3 2;gate in;wait in;", code, 21);
        Due.wrong("row 3 2;gate in;wait 0;", code, 22);
        Due.wrong("row 3 2;gate in;wait 0 both;", code, 23);
        Due.wrong("row 3 2;gate in;wait 0 0;", code, 23);
        Due.wrong("row 3 2;gate in;wait 0 in 0;", code, 26);
        Due.wrong("row 3 2;gate in;card a 1;wait 0 in a a;", code, 37);
        Due.wrong("row 3 2;gate in;wait 0 in", code, 25);
        Due.wrong("row 3 2;tick;", code, 12);
        Due.wrong("row 3 2;tick a;", code, 13);
        Due.wrong("row 3 2;tick 1 1;", code, 15);
        Due.wrong("row 3 2;key;", code, 11);
        Due.wrong("row 3 2;keys 1;", code, 8);
        Due.wrong("row 3 2;abcdefgh 1;", code, 8);
        Due.wrong("row 3 2;1;", code, 8);
        Due.wrong("row 3 2;card gate 1;;", code, 20);
        Due.wrong("row 3 2;card gate 1;1 in;", code, 20);
        Due.wrong("row 3 2;card kbhsymw 1;", GateRow.OUT_OF_RANGE, 13);
        Due.wrong("kbhsymw 3 2;", code, 0);
    }

    private static void promise3_ranges() {
        int code = GateRow.OUT_OF_RANGE;
        Due.wrong("row 0 2;", code, 4);
        Due.wrong("row 10 2;", code, 4);
        Due.wrong("row 3 0;", code, 6);
        Due.wrong("row 3 5;", code, 6);
        Due.wrong("row 32;", code, 4);
        Due.wrong("row 4294967297 1;", code, 4);
        Due.wrong("row 18446744073709551617 1;", code, 4);
        Due.wrong("row 0000 1;", code, 4);
        Due.wrong("row 1 1;tick 0;", code, 13);
        Due.wrong("row 1 1;tick 100;", code, 13);
        Due.wrong("row 1 1;tick 000100;", code, 13);
        Due.wrong("row 1 1;key 3;", code, 12);
        Due.wrong("row 1 1;card a 100;", code, 15);
        Due.wrong("row 1 1;card a 4294967296;", code, 15);
        Due.wrong("row 1 1;card abcdefg 1;", code, 13);
        Due.wrong("row 1 1;card abcdef 1;list abcdefg;", code, 27);
        Due.wrong("row 1 1;wait 0 in;", code, 13);
        Due.wrong("row 1 1;gate in;wait 1 in;", code, 21);
        Due.wrong("row 1 1;gate in;wait 0 in abcdefg;", code, 26);
        Due.right("row 1 1;card abcdef 0;list abcdef;tick 99;key 2;", 0);
    }

    private static void promise3_names() {
        int code = GateRow.NAME_ERROR;
        Due.wrong("row 1 1;card a 1;card a 1;", code, 22);
        Due.wrong("row 1 1;card a 1;card b 1;card a", code, 31);
        Due.wrong("row 1 1;list a;", code, 13);
        Due.wrong("row 1 1;card a 1;list a b;", code, 24);
        Due.wrong("row 1 1;gate in;card ab 1;wait 0 in a;", code, 36);
        Due.wrong("row 1 1;gate in;wait 0 in tick 3;", code, 26);
        Due.right("row 1 1;card a 1;card aa 1;card b 1;card ba 1;card ab 1;list aa ba;", 0);
    }

    private static void promise3_tooMany() {
        int code = GateRow.TOO_MANY;
        String six = "row 1 1;gate in;gate in;gate in;gate in;gate in;gate in;";
        Due.wrong(six + "gate in;", code, 56);
        Due.wrong(six + "  gate", code, 58);
        Due.wrong(six + "gate 5", code, 56);
        StringBuilder twelve = new StringBuilder("row 1 1;");
        for (char c = 'a'; c <= 'l'; c++) {
            twelve.append("card ").append(c).append(" 1;");
        }
        Due.right(twelve.toString(), 0);
        Due.wrong(twelve + "card m 1;", code, 116);
        Due.wrong(twelve + "card a 100", code, 116);
        Due.wrong(twelve + "card", code, 116);
        Due.wrong(twelve + "cards", GateRow.SYNTAX_ERROR, 116);
    }

    private static void promise3_refused() {
        int code = GateRow.REFUSED;
        String head = "row 1 1;gate in;gate both;card a 1;card b 1;wait 1 in a;";
        Due.wrong(head + "wait 0 out;", code, 63);
        Due.wrong(head + "wait 1 out;", code, 63);
        Due.wrong(head + "wait 1 in a;", code, 63);
        Due.wrong(head + "wait 0 in   a;", code, 63);
        Due.right(head + "tick 2;wait 1 out;", 2);
        Due.right(head + "tick 2;wait 1 out a;wait 1 in b;", 2);
        Due.wrong(head + "tick 2;wait 1 out;wait 1 out a;", code, 81);
        StringBuilder full = new StringBuilder("row 1 1;gate in;");
        for (int n = 0; n < 10; n++) {
            full.append("wait 0 in;");
        }
        Due.right(full.toString(), 1);
        Due.wrong(full + "wait 0 in;", code, 123);
        Due.wrong(head + "wait 1 out c;", GateRow.NAME_ERROR, 67);
        Due.wrong(head + "wait 1 out abcdefg;", GateRow.OUT_OF_RANGE, 67);
        Due.wrong(head + "wait 1 outer;", GateRow.SYNTAX_ERROR, 63);
        Due.wrong(head + "wait 1 out b 5;", code, 63);
        Due.wrong(head + "wait 1 out", code, 63);
    }

    private static void promise3_firstErrorCounts() {
        wrongAt("row 0 5;gato;", GateRow.OUT_OF_RANGE, "0");
        wrongAt("row 10;", GateRow.OUT_OF_RANGE, "10");
        wrongAt("row 1 1;tick 0 ! list a;", GateRow.OUT_OF_RANGE, "0");
        wrongAt("row 1 1;list a ! key 9;", GateRow.NAME_ERROR, "a");
        wrongAt("row 1 1;! list a;key 9;", GateRow.SYNTAX_ERROR, "!");
        wrongAt("row 1 1;gate in;wait 0 out ;key 9;", GateRow.REFUSED, "out");
        wrongAt("row 1 1;card abcdefg abcdefg;", GateRow.OUT_OF_RANGE, "abcdefg abcdefg");
    }

    private static void promise3_bytes() {
        int code = GateRow.SYNTAX_ERROR;
        Due.wrong("row\t3 2;", code, 3);
        Due.wrong("row\n3 2;", code, 3);
        Due.wrong("Row 3 2;", code, 0);
        Due.wrong("row 3,2;", code, 5);
        Due.wrong("row -3 2;", code, 4);
        Due.wrong("row 3 2;\0", code, 8);
        Due.wrong("row 3 2;\u00ff", code, 8);
        Due.wrong("row 3 2;\u00f2", code, 8);
        Due.wrong("row 3 2;`", code, 8);
        Due.wrong("row 3 2;{", code, 8);
        Due.wrong("row /3 2;", code, 4);
        Due.wrong("row :3 2;", code, 4);
        Due.wrong("\u00a0row 3 2;", code, 0);
        StringBuilder longest = new StringBuilder("row 3 2;");
        while (longest.length() < 500) {
            longest.append(' ');
        }
        Due.right(longest.toString(), 0);
        longest.setCharAt(499, 'x');
        Due.wrong(longest.toString(), code, 499);
        StringBuilder digits = new StringBuilder("row ");
        while (digits.length() < 495) {
            digits.append('0');
        }
        Due.right(digits + "7 3;", 0);
        Due.wrong(digits.toString().replace('0', '9'), GateRow.OUT_OF_RANGE, 4);
        StringBuilder letters = new StringBuilder();
        while (letters.length() < 500) {
            letters.append('z');
        }
        Due.wrong(letters.toString(), code, 0);
        StringBuilder ticks = new StringBuilder("row 3 2;");
        while (ticks.length() + 6 <= 500) {
            ticks.append("key 0;");
        }
        Due.right(ticks.toString(), 0);
    }

    private static void promise3_errorsLeaveAllAsItWas() {
        GateRow x = Due.row("row 2 2;gate both;card a 9;wait 0 in a;wait 0 in;tick 2;key 1;");
        long before = x.checksum();
        String[] texts = {"row 1 1;gate in;card b 1;wait 0 in b;tick 9;key 0;key 1;gate", "row 1 1;list b;", "row"};
        for (String text : texts) {
            Due.load(x, text);
            Due.equal("checksum after " + text, x.checksum(), before);
        }
        Due.buffer(x, "a");
        Due.equal("names stay", x.find(1), 0);
        Due.equal("a wrong text is no change", x.undo(), 0);
    }
}
