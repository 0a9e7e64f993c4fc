/** The grammar of the setup text, its error codes and the offsets of its errors. */
public final class SetupTextTests {
    public static void main(String[] args) {
        rightTexts();
        syntaxErrors();
        ranges();
        names();
        tooMany();
        refused();
        firstErrorCounts();
        bytes();
        errorsLeaveAllAsItWas();
        Due.end("SetupTextTests");
    }

    private static void right(String text, int gates) {
        GateRow x = new GateRow();
        Due.equal("load of '" + text + "'", Due.load(x, text), gates);
        Due.equal("offset of '" + text + "'", x.errorOffset(), -1);
    }

    private static void wrong(String text, int code, int offset) {
        GateRow x = new GateRow();
        Due.equal("load of '" + text + "'", Due.load(x, text), code);
        Due.equal("offset of '" + text + "'", x.errorOffset(), offset);
        Due.equal("nothing changed by '" + text + "'", x.checksum(), new GateRow().checksum());
    }

    private static void wrongAt(String text, int code, String part) {
        wrong(text, code, text.lastIndexOf(part));
    }

    private static void rightTexts() {
        right("row 3 2;", 0);
        right("row1 1;", 0);
        right("  row  9   4  ;  ", 0);
        right("row 00000000000000000000009 0000004;", 0);
        right("row 1 1;gate in;gate out;gate both;", 3);
        right("row 1 1;gate in;gate in;gate in;gate in;gate in;gate in;", 6);
        right("row 1 1;card a0;card b 99;card c00000000000000000099;list a;list a b c a;", 0);
        right("row 1 1 ; gate in ; card a 1 ; wait 0 in a ; tick 99 ; key 2 ; key 0 ;", 1);
        right("row 1 1;gate in;card a 1;wait0in a;tick1;key0;", 1);
        right("row 1 1;card row 1;card in 2;card tick 3;list row in tick;gate in;wait 0 in in;wait 0 in tick;", 1);
        GateRow x = Due.row("row 8 4;gate both;card a 5;card b 6;list b;wait 0 in a;wait 0 in;tick 3;wait 0 out;key 1;key 1;key 2;");
        Due.equal("hold", x.state(2), 8);
        Due.equal("flow", x.state(3), 4);
        Due.equal("keys", x.state(8), 1);
        Due.equal("inside", x.state(5), 2);
        Due.equal("in line", x.gate(0, 5), 1);
        Due.equal("b listed", x.card(1, 2), 1);
        Due.equal("a went in", x.card(0, 1), 1);
        GateRow p = Due.row("row 1 1;gate both;card a 5;wait 0 in a;tick 2;wait 0 out a;key 0;key 1;tick 1;");
        Due.equal("a panic of the text", p.state(14), 1);
    }

    private static void syntaxErrors() {
        int code = GateRow.SYNTAX_ERROR;
        wrong("", code, 0);
        wrong("     ", code, 5);
        wrong("row", code, 3);
        wrong("row  ", code, 5);
        wrong("row 3 2", code, 7);
        wrong("row 3 2  ", code, 9);
        wrong("row 3;", code, 5);
        wrong("row a 2;", code, 4);
        wrong("rows 3 2;", code, 0);
        wrong("ro 3 2;", code, 0);
        wrong("gate in;", code, 0);
        wrong(" ;", code, 1);
        wrong("row 3 2;;", code, 8);
        wrong("row 3 2 2;", code, 8);
        wrong("row 3 2;row 3 2;", code, 8);
        wrong("row 3 2;gate", code, 12);
        wrong("row 3 2;gate;", code, 12);
        wrong("row 3 2;gate inn;", code, 13);
        wrong("row 3 2;gatein;", code, 8);
        wrong("row 3 2;gate in out;", code, 16);
        wrong("row 3 2;gate in", code, 15);
        wrong("row 3 2;gate 2;", code, 13);
        wrong("row 3 2;card;", code, 12);
        wrong("row 3 2;card 1;", code, 13);
        wrong("row 3 2;card a;", code, 14);
        wrong("row 3 2;card a b;", code, 15);
        wrong("row 3 2;card a 1 1;", code, 17);
        wrong("row 3 2;list;", code, 12);
        wrong("row 3 2;card a 1;list a 1;", code, 24);
        wrong("row 3 2;gate in;wait in;", code, 21);
        wrong("row 3 2;gate in;wait 0;", code, 22);
        wrong("row 3 2;gate in;wait 0 both;", code, 23);
        wrong("row 3 2;gate in;wait 0 0;", code, 23);
        wrong("row 3 2;gate in;wait 0 in 0;", code, 26);
        wrong("row 3 2;gate in;card a 1;wait 0 in a a;", code, 37);
        wrong("row 3 2;gate in;wait 0 in", code, 25);
        wrong("row 3 2;tick;", code, 12);
        wrong("row 3 2;tick a;", code, 13);
        wrong("row 3 2;tick 1 1;", code, 15);
        wrong("row 3 2;key;", code, 11);
        wrong("row 3 2;keys 1;", code, 8);
        wrong("row 3 2;abcdefgh 1;", code, 8);
        wrong("row 3 2;1;", code, 8);
        wrong("row 3 2;card gate 1;;", code, 20);
        wrong("row 3 2;card gate 1;1 in;", code, 20);
        wrong("row 3 2;card kbhsymw 1;", GateRow.OUT_OF_RANGE, 13);
        wrong("kbhsymw 3 2;", code, 0);
    }

    private static void ranges() {
        int code = GateRow.OUT_OF_RANGE;
        wrong("row 0 2;", code, 4);
        wrong("row 10 2;", code, 4);
        wrong("row 3 0;", code, 6);
        wrong("row 3 5;", code, 6);
        wrong("row 32;", code, 4);
        wrong("row 4294967297 1;", code, 4);
        wrong("row 18446744073709551617 1;", code, 4);
        wrong("row 0000 1;", code, 4);
        wrong("row 1 1;tick 0;", code, 13);
        wrong("row 1 1;tick 100;", code, 13);
        wrong("row 1 1;tick 000100;", code, 13);
        wrong("row 1 1;key 3;", code, 12);
        wrong("row 1 1;card a 100;", code, 15);
        wrong("row 1 1;card a 4294967296;", code, 15);
        wrong("row 1 1;card abcdefg 1;", code, 13);
        wrong("row 1 1;card abcdef 1;list abcdefg;", code, 27);
        wrong("row 1 1;wait 0 in;", code, 13);
        wrong("row 1 1;gate in;wait 1 in;", code, 21);
        wrong("row 1 1;gate in;wait 0 in abcdefg;", code, 26);
        right("row 1 1;card abcdef 0;list abcdef;tick 99;key 2;", 0);
    }

    private static void names() {
        int code = GateRow.NAME_ERROR;
        wrong("row 1 1;card a 1;card a 1;", code, 22);
        wrong("row 1 1;card a 1;card b 1;card a", code, 31);
        wrong("row 1 1;list a;", code, 13);
        wrong("row 1 1;card a 1;list a b;", code, 24);
        wrong("row 1 1;gate in;card ab 1;wait 0 in a;", code, 36);
        wrong("row 1 1;gate in;wait 0 in tick 3;", code, 26);
        right("row 1 1;card a 1;card aa 1;card b 1;card ba 1;card ab 1;list aa ba;", 0);
    }

    private static void tooMany() {
        int code = GateRow.TOO_MANY;
        String six = "row 1 1;gate in;gate in;gate in;gate in;gate in;gate in;";
        wrong(six + "gate in;", code, 56);
        wrong(six + "  gate", code, 58);
        wrong(six + "gate 5", code, 56);
        StringBuilder twelve = new StringBuilder("row 1 1;");
        for (char c = 'a'; c <= 'l'; c++) {
            twelve.append("card ").append(c).append(" 1;");
        }
        right(twelve.toString(), 0);
        wrong(twelve + "card m 1;", code, 116);
        wrong(twelve + "card a 100", code, 116);
        wrong(twelve + "card", code, 116);
        wrong(twelve + "cards", GateRow.SYNTAX_ERROR, 116);
    }

    private static void refused() {
        int code = GateRow.REFUSED;
        String head = "row 1 1;gate in;gate both;card a 1;card b 1;wait 1 in a;";
        wrong(head + "wait 0 out;", code, 63);
        wrong(head + "wait 1 out;", code, 63);
        wrong(head + "wait 1 in a;", code, 63);
        wrong(head + "wait 0 in   a;", code, 63);
        right(head + "tick 2;wait 1 out;", 2);
        right(head + "tick 2;wait 1 out a;wait 1 in b;", 2);
        wrong(head + "tick 2;wait 1 out;wait 1 out a;", code, 81);
        StringBuilder full = new StringBuilder("row 1 1;gate in;");
        for (int n = 0; n < 10; n++) {
            full.append("wait 0 in;");
        }
        right(full.toString(), 1);
        wrong(full + "wait 0 in;", code, 123);
        wrong(head + "wait 1 out c;", GateRow.NAME_ERROR, 67);
        wrong(head + "wait 1 out abcdefg;", GateRow.OUT_OF_RANGE, 67);
        wrong(head + "wait 1 outer;", GateRow.SYNTAX_ERROR, 63);
        wrong(head + "wait 1 out b 5;", code, 63);
        wrong(head + "wait 1 out", code, 63);
    }

    private static void firstErrorCounts() {
        wrongAt("row 0 5;gato;", GateRow.OUT_OF_RANGE, "0");
        wrongAt("row 10;", GateRow.OUT_OF_RANGE, "10");
        wrongAt("row 1 1;tick 0 ! list a;", GateRow.OUT_OF_RANGE, "0");
        wrongAt("row 1 1;list a ! key 9;", GateRow.NAME_ERROR, "a");
        wrongAt("row 1 1;! list a;key 9;", GateRow.SYNTAX_ERROR, "!");
        wrongAt("row 1 1;gate in;wait 0 out ;key 9;", GateRow.REFUSED, "out");
        wrongAt("row 1 1;card abcdefg abcdefg;", GateRow.OUT_OF_RANGE, "abcdefg abcdefg");
    }

    private static void bytes() {
        int code = GateRow.SYNTAX_ERROR;
        wrong("row\t3 2;", code, 3);
        wrong("row\n3 2;", code, 3);
        wrong("Row 3 2;", code, 0);
        wrong("row 3,2;", code, 5);
        wrong("row -3 2;", code, 4);
        wrong("row 3 2;\0", code, 8);
        wrong("row 3 2;\u00ff", code, 8);
        wrong("row 3 2;\u00f2", code, 8);
        wrong("row 3 2;`", code, 8);
        wrong("row 3 2;{", code, 8);
        wrong("row /3 2;", code, 4);
        wrong("row :3 2;", code, 4);
        wrong("\u00a0row 3 2;", code, 0);
        StringBuilder longest = new StringBuilder("row 3 2;");
        while (longest.length() < 500) {
            longest.append(' ');
        }
        right(longest.toString(), 0);
        longest.setCharAt(499, 'x');
        wrong(longest.toString(), code, 499);
        StringBuilder digits = new StringBuilder("row ");
        while (digits.length() < 495) {
            digits.append('0');
        }
        right(digits + "7 3;", 0);
        wrong(digits.toString().replace('0', '9'), GateRow.OUT_OF_RANGE, 4);
        StringBuilder letters = new StringBuilder();
        while (letters.length() < 500) {
            letters.append('z');
        }
        wrong(letters.toString(), code, 0);
        StringBuilder ticks = new StringBuilder("row 3 2;");
        while (ticks.length() + 6 <= 500) {
            ticks.append("key 0;");
        }
        right(ticks.toString(), 0);
    }

    private static void errorsLeaveAllAsItWas() {
        GateRow x = Due.row("row 2 2;gate both;card a 9;wait 0 in a;wait 0 in;tick 2;key 1;");
        long before = x.checksum();
        String[] texts = {"row 1 1;gate in;card b 1;wait 0 in b;tick 9;key 0;key 1;gate", "row 1 1;list b;", "row"};
        for (String text : texts) {
            Due.load(x, text);
            Due.equal("checksum after " + text, x.checksum(), before);
        }
        Due.buffer(x, "a");
        Due.equal("names stay", x.find(1), 0);
        Due.equal("a wrong text is no change", x.undo(), 0);
    }
}
