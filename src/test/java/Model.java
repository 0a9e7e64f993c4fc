import java.util.ArrayList;
import java.util.List;
import java.util.NoSuchElementException;
import java.util.TreeMap;
import java.util.TreeSet;
import java.util.regex.Matcher;
import java.util.regex.Pattern;

/**
 * The document once more, written in the slowest and plainest way, apart from GateRow: the
 * rules stand here a second time on purpose, so that a slip in one of the two shows.
 */
final class Model {
    static final class Person {
        final String card;

        Person(String card) {
            this.card = card;
        }
    }

    static final class Stand implements Cloneable {
        int hold = 3, flow = 2, ticks, inside, in, out, followers, away, awayInside, refused, panicked;
        TreeSet<Integer> turned = new TreeSet<>();
        List<String> modes = new ArrayList<>();
        List<List<List<Person>>> lines = new ArrayList<>();
        List<int[]> paddles = new ArrayList<>();
        List<String> cards = new ArrayList<>();
        TreeMap<String, Integer> trips = new TreeMap<>();
        TreeMap<String, Integer> passages = new TreeMap<>();
        TreeSet<String> within = new TreeSet<>();
        TreeSet<String> listed = new TreeSet<>();

        Stand copy() {
            Stand other;
            try {
                other = (Stand) clone();
            } catch (CloneNotSupportedException e) {
                throw new AssertionError(e);
            }
            other.turned = new TreeSet<>(turned);
            other.modes = new ArrayList<>(modes);
            other.lines = new ArrayList<>();
            for (List<List<Person>> two : lines) {
                other.lines.add(List.of(new ArrayList<>(two.get(0)), new ArrayList<>(two.get(1))));
            }
            other.paddles = new ArrayList<>();
            for (int[] each : paddles) {
                other.paddles.add(each.clone());
            }
            other.cards = new ArrayList<>(cards);
            other.trips = new TreeMap<>(trips);
            other.passages = new TreeMap<>(passages);
            other.within = new TreeSet<>(within);
            other.listed = new TreeSet<>(listed);
            return other;
        }

        // paddles: 0 ticks yet, 1 side or -1, 2 due, 3 alarms, 4 openings, 5 last side or -1

        boolean panic() {
            return turned.size() >= 2;
        }

        boolean serves(int gate, int side) {
            return modes.get(gate).equals("both") || modes.get(gate).equals(side == 0 ? "in" : "out");
        }

        int why(String card, int side) {
            if (listed.contains(card)) {
                return 1;
            }
            if (within.contains(card) == (side == 0)) {
                return 2;
            }
            return side == 0 && trips.get(card) == 0 ? 3 : 0;
        }

        int[] placeOf(String card) {
            for (int g = 0; g < lines.size(); g++) {
                for (int side = 0; side < 2; side++) {
                    for (int p = 0; p < lines.get(g).get(side).size(); p++) {
                        if (card.equals(lines.get(g).get(side).get(p).card)) {
                            return new int[] {g, side, p};
                        }
                    }
                }
            }
            return new int[] {-1, -1, -1};
        }

        int waiting(int side) {
            int sum = 0;
            for (List<List<Person>> two : lines) {
                sum += two.get(side).size();
            }
            return sum;
        }

        int whyNotJoin(int gate, int side, String card) {
            if (!serves(gate, side)) {
                return 1;
            }
            if (lines.get(gate).get(side).size() == 10) {
                return 2;
            }
            if (card != null && placeOf(card)[0] != -1) {
                return 3;
            }
            return side == 1 && waiting(1) == inside ? 4 : 0;
        }

        int nextSide(int gate) {
            if (!modes.get(gate).equals("both")) {
                return modes.get(gate).equals("in") ? 0 : 1;
            }
            int difference = lines.get(gate).get(0).size() - lines.get(gate).get(1).size();
            if (difference != 0) {
                return difference > 0 ? 0 : 1;
            }
            return paddles.get(gate)[5] == 0 ? 1 : 0;
        }

        void through(int gate, int side) {
            Person person = lines.get(gate).get(side).remove(0);
            if (side == 0) {
                in++;
                inside++;
            } else {
                out++;
                inside--;
            }
            if (person.card != null) {
                passages.merge(person.card, 1, Integer::sum);
                if (side == 0) {
                    within.add(person.card);
                    trips.merge(person.card, -1, Integer::sum);
                } else {
                    within.remove(person.card);
                }
            }
        }

        void turn(int key) {
            boolean before = panic();
            if (!turned.remove(key)) {
                turned.add(key);
            }
            if (panic() && !before) {
                for (int[] each : paddles) {
                    each[0] = 0;
                    each[1] = -1;
                    each[2] = 0;
                }
            }
        }

        void tickOnce() {
            for (int g = 0; g < lines.size(); g++) {
                int[] paddle = paddles.get(g);
                if (panic()) {
                    int many = Math.min(flow, lines.get(g).get(1).size());
                    for (int n = 0; n < many; n++) {
                        through(g, 1);
                    }
                    panicked += many;
                } else if (paddle[0] > 0) {
                    List<Person> line = lines.get(g).get(paddle[1]);
                    if (paddle[2] == 1) {
                        paddle[2] = 0;
                        through(g, paddle[1]);
                    } else if (!line.isEmpty() && line.get(0).card == null) {
                        through(g, paddle[1]);
                        followers++;
                        paddle[3]++;
                    }
                    paddle[0]--;
                    if (paddle[0] == 0) {
                        paddle[1] = -1;
                    }
                } else {
                    serve(g, paddle);
                }
            }
            ticks++;
        }

        private void serve(int g, int[] paddle) {
            int side = nextSide(g);
            List<Person> line = lines.get(g).get(side);
            Person first = null;
            for (Person each : line) {
                if (first == null && each.card != null) {
                    first = each;
                }
            }
            if (first == null) {
                return;
            }
            line.remove(first);
            if (why(first.card, side) != 0) {
                away++;
                if (side == 1) {
                    inside--;
                    awayInside++;
                }
                return;
            }
            line.add(0, first);
            paddle[0] = hold;
            paddle[1] = side;
            paddle[2] = 1;
            paddle[4]++;
            paddle[5] = side;
        }

        Stand after(int count) {
            Stand later = copy();
            for (int n = 0; n < count; n++) {
                later.tickOnce();
            }
            return later;
        }

        int state(int what) {
            int open = 0;
            for (int[] each : paddles) {
                open += each[0] > 0 ? 1 : 0;
            }
            int[] all = {lines.size(), cards.size(), hold, flow, ticks, inside, waiting(0) + waiting(1),
                panic() ? 1 : 0, turned.size(), in, out, followers, away, refused, panicked, open};
            return all[what];
        }

        int gate(int g, int what) {
            int[] paddle = paddles.get(g);
            int[] all = {List.of("in", "out", "both").indexOf(modes.get(g)), paddle[0], paddle[1], paddle[2],
                lines.get(g).get(0).size(), lines.get(g).get(1).size(), paddle[3], paddle[4], paddle[5]};
            return all[what];
        }

        int card(int c, int what) {
            String name = cards.get(c);
            int[] place = placeOf(name);
            int[] all = {trips.get(name), within.contains(name) ? 1 : 0, listed.contains(name) ? 1 : 0,
                place[0], place[1], place[2], passages.getOrDefault(name, 0)};
            return all[what];
        }

        int cardOf(Person person) {
            return person.card == null ? -1 : cards.indexOf(person.card);
        }
    }

    static final class Wrong extends Exception {
        private static final long serialVersionUID = 1;
        final int code;
        final int offset;

        Wrong(int code, int offset) {
            super(null, null, false, false);
            this.code = code;
            this.offset = offset;
        }
    }

    private static final Pattern TOKEN = Pattern.compile("( *)(?:([0-9]+)|([a-z]+)|(;)|(\\z)|(?s)(.))");

    Stand now = new Stand();
    final List<Stand> history = new ArrayList<>();
    String buffer = "";
    int errorOffset = -1;

    private String text;
    private Matcher token;

    private void change() {
        history.add(now.copy());
        if (history.size() > 8) {
            history.remove(0);
        }
    }

    int append(String twenty) {
        if (buffer.length() + 20 > 500) {
            return -1;
        }
        buffer += twenty;
        return buffer.length();
    }

    int load(int length) {
        needLength(length);
        text = buffer.substring(0, length);
        buffer = "";
        Stand told = new Stand();
        try {
            read(told);
        } catch (Wrong e) {
            errorOffset = e.offset;
            return e.code;
        }
        errorOffset = -1;
        change();
        now = told;
        return now.lines.size();
    }

    private int offset() {
        return token.end(1);
    }

    private void next() {
        token.region(token.end(), text.length());
        if (!token.lookingAt()) {
            throw new AssertionError("no token at all");
        }
    }

    private Wrong syntax() {
        return new Wrong(-2, offset());
    }

    private int number(int least, int most) throws Wrong {
        if (token.group(2) == null) {
            throw syntax();
        }
        String digits = token.group(2).replaceFirst("^0+(?=.)", "");
        if (digits.length() > 4 || Integer.parseInt(digits) < least || Integer.parseInt(digits) > most) {
            throw new Wrong(-3, offset());
        }
        next();
        return Integer.parseInt(digits);
    }

    private String word(String... allowed) throws Wrong {
        String word = token.group(3);
        if (word == null || !List.of(allowed).contains(word)) {
            throw syntax();
        }
        next();
        return word;
    }

    private String name(Stand told, boolean isNew) throws Wrong {
        String word = token.group(3);
        if (word == null) {
            throw syntax();
        }
        if (word.length() > 6) {
            throw new Wrong(-3, offset());
        }
        if (told.cards.contains(word) == isNew) {
            throw new Wrong(-4, offset());
        }
        next();
        return word;
    }

    private void semicolon() throws Wrong {
        if (token.group(4) == null) {
            throw syntax();
        }
        next();
    }

    private void read(Stand told) throws Wrong {
        token = TOKEN.matcher(text);
        token.lookingAt();
        word("row");
        told.hold = number(1, 9);
        told.flow = number(1, 4);
        semicolon();
        while (token.group(5) == null) {
            int start = offset();
            String head = word("gate", "card", "list", "wait", "tick", "key");
            if (head.equals("gate")) {
                if (told.lines.size() == 6) {
                    throw new Wrong(-5, start);
                }
                told.modes.add(word("in", "out", "both"));
                told.lines.add(List.of(new ArrayList<>(), new ArrayList<>()));
                told.paddles.add(new int[] {0, -1, 0, 0, 0, -1});
            } else if (head.equals("card")) {
                if (told.cards.size() == 12) {
                    throw new Wrong(-5, start);
                }
                String name = name(told, true);
                int trips = number(0, 99);
                told.cards.add(name);
                told.trips.put(name, trips);
            } else if (head.equals("list")) {
                told.listed.add(name(told, false));
                while (token.group(3) != null) {
                    told.listed.add(name(told, false));
                }
            } else if (head.equals("wait")) {
                int gate = number(0, told.lines.size() - 1);
                int sideAt = offset();
                int side = word("in", "out").equals("in") ? 0 : 1;
                String card = token.group(3) == null ? null : name(told, false);
                if (told.whyNotJoin(gate, side, card) != 0) {
                    throw new Wrong(-6, sideAt);
                }
                told.lines.get(gate).get(side).add(new Person(card));
            } else if (head.equals("tick")) {
                int count = number(1, 99);
                for (int n = 0; n < count; n++) {
                    told.tickOnce();
                }
            } else {
                told.turn(number(0, 2));
            }
            semicolon();
        }
    }

    private void needLength(int length) {
        need(length >= 0 && length <= buffer.length());
    }

    private static void need(boolean isRight) {
        if (!isRight) {
            throw new IllegalArgumentException();
        }
    }

    private static void needIndex(boolean isRight) {
        if (!isRight) {
            throw new IndexOutOfBoundsException();
        }
    }

    private static void needElement(boolean isRight) {
        if (!isRight) {
            throw new NoSuchElementException();
        }
    }

    private static void needState(boolean isRight) {
        if (!isRight) {
            throw new IllegalStateException();
        }
    }

    private void needGate(int gate) {
        needIndex(gate >= 0 && gate < now.lines.size());
    }

    private void needCard(int card) {
        needIndex(card >= 0 && card < now.cards.size());
    }

    private String cardOrNone(int card) {
        needIndex(card >= -1 && card < now.cards.size());
        return card == -1 ? null : now.cards.get(card);
    }

    private static void needSide(int side) {
        need(side == 0 || side == 1);
    }

    int state(int what) {
        need(what >= 0 && what <= 15);
        return now.state(what);
    }

    int find(int length) {
        needLength(length);
        return now.cards.indexOf(buffer.substring(0, length));
    }

    int gate(int gate, int what) {
        needGate(gate);
        need(what >= 0 && what <= 8);
        return now.gate(gate, what);
    }

    int card(int card, int what) {
        needCard(card);
        need(what >= 0 && what <= 6);
        return now.card(card, what);
    }

    int inLine(int gate, int side, int place) {
        needGate(gate);
        needSide(side);
        List<Person> line = now.lines.get(gate).get(side);
        needElement(place >= 0 && place < line.size());
        return now.cardOf(line.get(place));
    }

    int why(int card, int side) {
        needCard(card);
        needSide(side);
        return now.why(now.cards.get(card), side);
    }

    int whyNotJoin(int gate, int side, int card) {
        needGate(gate);
        String name = cardOrNone(card);
        needSide(side);
        return now.whyNotJoin(gate, side, name);
    }

    int bestGate(int side) {
        needSide(side);
        for (int size = 0; size <= 10; size++) {
            for (int g = 0; g < now.lines.size(); g++) {
                if (now.serves(g, side) && now.lines.get(g).get(side).size() == size) {
                    return g;
                }
            }
        }
        return -1;
    }

    int nextSide(int gate) {
        needGate(gate);
        return now.nextSide(gate);
    }

    int throughIn(int card) {
        needCard(card);
        for (int t = 1; t <= 200 && now.card(card, 3) != -1; t++) {
            if (now.after(t).card(card, 6) > now.card(card, 6)) {
                return t;
            }
        }
        return -1;
    }

    int insideIn(int ticks) {
        need(ticks >= 1 && ticks <= 200);
        return now.after(ticks).inside;
    }

    int followersIn(int ticks) {
        need(ticks >= 1 && ticks <= 200);
        return now.after(ticks).followers - now.followers;
    }

    int outInPanic() {
        Stand panic = now.copy();
        for (int key = 0; key < 3; key++) {
            if (!panic.turned.contains(key)) {
                panic.turn(key);
            }
        }
        int t = 0;
        while (panic.after(t).waiting(1) > 0) {
            t++;
        }
        return t;
    }

    int ranked(int rank) {
        needElement(rank >= 0 && rank < now.lines.size());
        List<Integer> order = new ArrayList<>();
        for (int g = 0; g < now.lines.size(); g++) {
            order.add(g);
        }
        order.sort((a, b) -> now.gate(b, 4) + now.gate(b, 5) - now.gate(a, 4) - now.gate(a, 5));
        return order.get(rank);
    }

    float followerShare() {
        return now.in + now.out == 0 ? 0 : (float) now.followers / (float) (now.in + now.out);
    }

    int join(int gate, int side, int card) {
        int reason = whyNotJoin(gate, side, card);
        change();
        if (reason != 0) {
            now.refused++;
            return -reason;
        }
        now.lines.get(gate).get(side).add(new Person(cardOrNone(card)));
        return now.lines.get(gate).get(side).size();
    }

    int leave(int gate, int side, int place) {
        inLine(gate, side, place);
        int[] paddle = now.paddles.get(gate);
        needState(!(place == 0 && paddle[1] == side && paddle[2] == 1));
        change();
        now.lines.get(gate).get(side).remove(place);
        return now.lines.get(gate).get(side).size();
    }

    int list(int card, boolean isListed) {
        needCard(card);
        change();
        if (isListed) {
            now.listed.add(now.cards.get(card));
        } else {
            now.listed.remove(now.cards.get(card));
        }
        return now.listed.size();
    }

    int charge(int card, int trips) {
        needCard(card);
        need(trips >= 1 && trips <= 99);
        needState(now.card(card, 0) + trips <= 99);
        change();
        return now.trips.merge(now.cards.get(card), trips, Integer::sum);
    }

    int mode(int gate, int mode) {
        needGate(gate);
        need(mode >= 0 && mode <= 2);
        needState(now.paddles.get(gate)[0] == 0);
        needState(mode != 0 || now.gate(gate, 5) == 0);
        needState(mode != 1 || now.gate(gate, 4) == 0);
        change();
        int before = now.gate(gate, 0);
        now.modes.set(gate, List.of("in", "out", "both").get(mode));
        return before;
    }

    int key(int key) {
        need(key >= 0 && key <= 2);
        change();
        now.turn(key);
        return now.turned.size();
    }

    int tick(int ticks) {
        need(ticks >= 1 && ticks <= 99);
        change();
        int before = now.in + now.out;
        now = now.after(ticks);
        return now.in + now.out - before;
    }

    int undo() {
        if (history.isEmpty()) {
            return -1;
        }
        now = history.remove(history.size() - 1);
        return history.size();
    }

    long checksum() {
        List<Integer> all = new ArrayList<>();
        for (int what = 0; what < 16; what++) {
            all.add(now.state(what));
        }
        for (int g = 0; g < now.lines.size(); g++) {
            for (int what = 0; what < 9; what++) {
                all.add(now.gate(g, what));
            }
            for (List<Person> line : now.lines.get(g)) {
                for (Person each : line) {
                    all.add(now.cardOf(each));
                }
            }
        }
        for (int c = 0; c < now.cards.size(); c++) {
            for (int what = 0; what < 7; what++) {
                all.add(now.card(c, what));
            }
        }
        long sum = 0;
        for (int each : all) {
            sum = 31 * sum + each;
        }
        return sum;
    }
}
