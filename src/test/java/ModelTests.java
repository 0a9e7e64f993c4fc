import java.util.ArrayList;
import java.util.List;
import java.util.Map;
import java.util.Random;
import java.util.TreeMap;
import java.util.function.IntSupplier;

/** Long mixed runs of calls, each answer compared with that of the plain model. */
public final class ModelTests {
    private static final int RUNS = 2000;
    private static final int CALLS = 160;

    private static final Map<String, Integer> REACHED = new TreeMap<>();

    private final Random random;
    private final GateRow row = new GateRow();
    private final Model model = new Model();
    private final List<String> calls = new ArrayList<>();
    private boolean isRight = true;
    /** Most runs turn no keys, so that the paddles get their time. */
    private final boolean isCalm;
    private final String[] modes;

    private ModelTests(long seed) {
        random = new Random(seed);
        isCalm = random.nextInt(3) > 0;
        modes = random.nextBoolean() ? new String[] {"both"} : new String[] {"in", "out", "both", "both"};
    }

    public static void main(String[] args) {
        int runs = args.length > 0 ? Integer.parseInt(args[0]) : RUNS;
        int loads = 0;
        for (int seed = 0; seed < runs; seed++) {
            ModelTests run = new ModelTests(seed);
            for (int n = 0; n < CALLS && run.isRight; n++) {
                run.step(n);
            }
            loads += run.row.state(0) > 0 ? 1 : 0;
            if (!run.isRight) {
                Due.report("seed " + seed + ": " + run.calls);
            }
        }
        if (args.length > 0) {
            REACHED.forEach((kind, times) -> System.out.println(kind + ": " + times));
        }
        Due.equal("most runs have gates", loads > runs / 2 ? 1 : 0, 1);
        Due.end("ModelTests");
    }

    private static String answer(IntSupplier call) {
        try {
            return Integer.toString(call.getAsInt());
        } catch (RuntimeException e) {
            return e.getClass().getName();
        }
    }

    private void same(String name, IntSupplier got, IntSupplier want) {
        String wanted = answer(want);
        String found = answer(got);
        calls.add(name + " " + wanted);
        count(name, wanted);
        if (!found.equals(wanted)) {
            isRight = false;
            calls.add("BUT " + found);
        }
    }

    private int near(int most) {
        return random.nextInt(40) == 0 ? random.nextInt(5) * 37 - 64 : random.nextInt(most + 2) - 1;
    }

    private int likely(int count) {
        return random.nextInt(30) == 0 || count == 0 ? near(count) : random.nextInt(count);
    }

    private int aGate() {
        return likely(model.now.lines.size());
    }

    private int aCard() {
        return likely(model.now.cards.size());
    }

    private int aCardOrNone() {
        return random.nextInt(3) == 0 ? -1 : aCard();
    }

    private void step(int n) {
        if (random.nextInt(model.now.lines.isEmpty() ? 2 : 60) == 0) {
            loadText();
        }
        int kind = random.nextInt(100);
        if (kind < 55) {
            change();
        } else {
            ask();
        }
        if (row.checksum() != model.checksum()) {
            isRight = false;
            calls.add("BUT another checksum");
        }
        if (row.gap() != 0) {
            isRight = false;
            calls.add("BUT a gap");
        }
    }

    private void change() {
        int kind = random.nextInt(100);
        int g = aGate();
        int side = likely(2);
        int c = aCardOrNone();
        if (kind < 40) {
            same("join " + g + " " + side + " " + c, () -> row.join(g, side, c), () -> model.join(g, side, c));
        } else if (kind < 65) {
            int t = random.nextInt(15) == 0 ? near(100) : 1 + random.nextInt(4);
            same("tick " + t, () -> row.tick(t), () -> model.tick(t));
        } else if (kind < 71) {
            int p = random.nextInt(3) > 0 ? 0 : near(10);
            same("leave " + g + " " + side + " " + p, () -> row.leave(g, side, p), () -> model.leave(g, side, p));
        } else if (kind < 77) {
            boolean on = random.nextBoolean();
            int card = aCard();
            same("list " + card + " " + on, () -> row.list(card, on), () -> model.list(card, on));
        } else if (kind < 82) {
            int card = aCard();
            int t = random.nextBoolean() ? near(100) : 1 + random.nextInt(5);
            same("charge " + card + " " + t, () -> row.charge(card, t), () -> model.charge(card, t));
        } else if (kind < 89) {
            int m = likely(3);
            same("mode " + g + " " + m, () -> row.mode(g, m), () -> model.mode(g, m));
        } else if (kind < 95 && !isCalm) {
            int k = likely(3);
            same("key " + k, () -> row.key(k), () -> model.key(k));
        } else {
            for (int n = random.nextInt(4) == 0 ? 10 : 1; n > 0; n--) {
                same("undo", row::undo, model::undo);
            }
        }
    }

    private void ask() {
        int g = aGate();
        int side = likely(2);
        int card = aCard();
        int a = random.nextInt(4) == 0 ? near(12) : random.nextInt(7);
        int place = random.nextInt(2) * a;
        int t = random.nextInt(4) == 0 ? near(200) : 1 + random.nextInt(12);
        switch (random.nextInt(15)) {
            case 0: same("state " + a, () -> row.state(a + 3), () -> model.state(a + 3)); break;
            case 1: same("gate " + g + " " + a, () -> row.gate(g, a), () -> model.gate(g, a)); break;
            case 2: same("card " + card + " " + a, () -> row.card(card, a), () -> model.card(card, a)); break;
            case 3: same("inLine", () -> row.inLine(g, side, place), () -> model.inLine(g, side, place)); break;
            case 4: same("why", () -> row.why(card, side), () -> model.why(card, side)); break;
            case 5: {
                int c = aCardOrNone();
                same("whyNotJoin", () -> row.whyNotJoin(g, side, c), () -> model.whyNotJoin(g, side, c));
                break;
            }
            case 6: same("bestGate " + side, () -> row.bestGate(side), () -> model.bestGate(side)); break;
            case 7: same("nextSide " + g, () -> row.nextSide(g), () -> model.nextSide(g)); break;
            case 8: same("throughIn " + card, () -> row.throughIn(card), () -> model.throughIn(card)); break;
            case 9: same("insideIn " + t, () -> row.insideIn(t), () -> model.insideIn(t)); break;
            case 10: same("followersIn " + t, () -> row.followersIn(t), () -> model.followersIn(t)); break;
            case 11: same("outInPanic", row::outInPanic, model::outInPanic); break;
            case 12: same("ranked " + a, () -> row.ranked(a), () -> model.ranked(a)); break;
            case 13:
                same("followerShare", () -> Float.floatToIntBits(row.followerShare()),
                        () -> Float.floatToIntBits(model.followerShare()));
                break;
            default: same("errorOffset", row::errorOffset, () -> model.errorOffset); break;
        }
    }

    private void append(String text) {
        StringBuilder padded = new StringBuilder(text);
        while (padded.length() % 20 != 0) {
            padded.append((char) random.nextInt(256));
        }
        for (int from = 0; from < padded.length(); from += 20) {
            String twenty = padded.substring(from, from + 20);
            int[] w = new int[5];
            for (int i = 0; i < 20; i++) {
                w[i / 4] = w[i / 4] << 8 | twenty.charAt(i);
            }
            same("append", () -> row.append(w[0], w[1], w[2], w[3], w[4]), () -> model.append(twenty));
        }
    }

    private void loadText() {
        String text = text();
        if (random.nextInt(4) == 0) {
            text = broken(text);
        }
        String name = oneOf("a", "b", "ab", "in", "row", "zz", "abcdefg");
        append(name);
        int first = random.nextInt(6) == 0 ? near(30) : name.length();
        same("find " + first + " of " + name, () -> row.find(first), () -> model.find(first));
        same("load 0", () -> row.load(0), () -> model.load(0));
        append(text);
        int wrong = random.nextBoolean() ? -1 : model.buffer.length() + 1 + random.nextInt(3);
        same("load " + wrong, () -> row.load(wrong), () -> model.load(wrong));
        int length = random.nextInt(20) == 0 ? random.nextInt(text.length() + 1)
                : Math.min(model.buffer.length(), text.length());
        same("load '" + text + "' " + length, () -> row.load(length), () -> model.load(length));
        same("errorOffset", row::errorOffset, () -> model.errorOffset);
    }

    /** How often each kind of answer came, so that what the runs reach can be seen. */
    private static void count(String call, String answer) {
        String name = call.split(" ")[0];
        boolean isNumber = answer.matches("-?[0-9]+");
        String kind = !isNumber ? answer : answer.startsWith("-") ? answer : answer.equals("0") ? "0" : "+";
        REACHED.merge(name + " " + kind, 1, Integer::sum);
    }

    private String oneOf(String... all) {
        return all[random.nextInt(all.length)];
    }

    private String text() {
        int gates = random.nextInt(20) == 0 ? 7 : 1 + random.nextInt(4);
        String[] names = {"a", "b", "c", "ab", "in", "out", "tick", "row", "ba", "aa", "z", "zzzzzz", "y", "x"};
        int cards = random.nextInt(20) == 0 ? 13 : random.nextInt(9);
        StringBuilder text = new StringBuilder("row ").append(1 + random.nextInt(9)).append(' ')
                .append(1 + random.nextInt(4)).append(';');
        for (int g = 0; g < gates; g++) {
            text.append("gate ").append(oneOf(modes)).append(';');
        }
        for (int c = 0; c < cards; c++) {
            text.append("card ").append(names[c]).append(' ').append(random.nextInt(4) * random.nextInt(25)).append(';');
        }
        int next = 0;
        for (int n = random.nextInt(16); n > 0 && text.length() < 470; n--) {
            int kind = random.nextInt(12);
            if (kind < 7) {
                text.append("wait ").append(random.nextInt(gates)).append(n % 5 == 4 ? "out" : oneOf(" in", "in ", " in"));
                if (next < cards && random.nextBoolean()) {
                    text.append(' ').append(names[random.nextInt(9) == 0 ? 0 : next++]);
                }
            } else if (kind < 10) {
                text.append("tick ").append(1 + random.nextInt(6));
            } else if (kind < 11 && cards > 0) {
                text.append("list ").append(names[random.nextInt(cards)]);
            } else if (!isCalm) {
                text.append("key ").append(random.nextInt(3));
            } else {
                text.append("tick 9");
            }
            text.append(';');
        }
        return text.toString();
    }

    private String broken(String text) {
        StringBuilder broken = new StringBuilder(text);
        for (int n = 1 + random.nextInt(2); n > 0 && broken.length() > 0; n--) {
            int at = random.nextInt(broken.length());
            String part = oneOf(" ", ";", "in", "out", "a", "zz", "9", "0", "100", "key 3;", "tick 0;", "wait 0 out;",
                    "list a", "abcdefg", "\t", "\u00ff", "A");
            if (random.nextBoolean()) {
                broken.insert(at, part);
            } else {
                broken.delete(at, Math.min(broken.length(), at + 1 + random.nextInt(3)));
            }
        }
        return broken.substring(0, Math.min(broken.length(), 500));
    }
}
