/** What the tests of the project share: comparing answers, and handing over texts. */
final class Due {
    private static int tests = 0;
    private static int checks = 0;
    private static int checksBefore = 0;
    private static int wrong = 0;
    private static String test = "";

    private Due() {
    }

    static void begin(String name) {
        tests++;
        checksBefore = checks;
        test = name + ": ";
    }

    static void endOne() {
        if (checks == checksBefore) {
            report("checks nothing");
        }
        test = "";
    }

    static void equal(String what, long got, long want) {
        checks++;
        if (got != want) {
            report(what + " answered " + got + ", due is " + want);
        }
    }

    static void equalFloat(String what, float got, float want) {
        checks++;
        if (Float.compare(got, want) != 0) {
            report(what + " answered " + got + ", due is " + want);
        }
    }

    /** The class is compared exactly: a subclass would be one that the machine throws. */
    static void thrown(String what, Class<? extends RuntimeException> kind, Runnable call) {
        checks++;
        try {
            call.run();
        } catch (RuntimeException e) {
            if (e.getClass() != kind) {
                report(what + " threw " + e.getClass() + ", due is " + kind);
            }
            return;
        }
        report(what + " threw nothing, due is " + kind);
    }

    /** Like thrown, and the row must be as it was. */
    static void refused(GateRow row, String what, Class<? extends RuntimeException> kind, Runnable call) {
        long before = row.checksum();
        int offset = row.errorOffset();
        thrown(what, kind, call);
        equal("checksum after " + what, row.checksum(), before);
        equal("error offset after " + what, row.errorOffset(), offset);
    }

    static void report(String text) {
        wrong++;
        System.out.println(test + text);
    }

    /** A text's characters are its bytes; what fills up the last 20 bytes is not read. */
    static int buffer(GateRow row, String text) {
        int length = 0;
        for (int from = 0; from < text.length(); from += 20) {
            length = row.append(word(text, from), word(text, from + 4), word(text, from + 8),
                    word(text, from + 12), word(text, from + 16));
        }
        return length;
    }

    static int load(GateRow row, String text) {
        buffer(row, text);
        return row.load(text.length());
    }

    static GateRow row(String text) {
        GateRow row = new GateRow();
        int answer = load(row, text);
        if (answer < 0) {
            report("load of '" + text + "' answered " + answer + " at " + row.errorOffset());
        }
        return row;
    }

    static void right(String text, int gates) {
        GateRow x = new GateRow();
        equal("load of '" + text + "'", load(x, text), gates);
        equal("offset of '" + text + "'", x.errorOffset(), -1);
    }

    static void wrong(String text, int code, int offset) {
        GateRow x = new GateRow();
        equal("load of '" + text + "'", load(x, text), code);
        equal("offset of '" + text + "'", x.errorOffset(), offset);
        equal("nothing changed by '" + text + "'", x.checksum(), new GateRow().checksum());
    }

    private static int word(String text, int from) {
        int word = 0;
        for (int i = from; i < from + 4; i++) {
            word = word << 8 | (i < text.length() ? text.charAt(i) & 255 : ' ');
        }
        return word;
    }

    static void end(String name) {
        System.out.println(name + ": " + tests + " tests, " + checks + " checks, " + wrong + " wrong");
        if (wrong != 0) {
            System.exit(1);
        }
    }
}
