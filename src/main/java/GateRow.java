import java.util.NoSuchElementException;

/**
 * A row of gates of a station, as the document GateRow tells it in its numbered promises.
 *
 * All rows of data are made by the constructor and used again by every call, so that no call
 * makes an object but the exceptions that the document asks for.
 */
public final class GateRow {
    public static final int SYNTAX_ERROR = -2;
    public static final int OUT_OF_RANGE = -3;
    public static final int NAME_ERROR = -4;
    public static final int TOO_MANY = -5;
    public static final int REFUSED = -6;
    public static final int NONE = -1;

    private static final int BUFFER_BYTES = 500;
    private static final int APPENDED_BYTES = 20;
    private static final int MOST_GATES = 6;
    private static final int MOST_CARDS = 12;
    private static final int LINE_PLACES = 10;
    private static final int NAME_LETTERS = 6;
    private static final int KEYS = 3;
    private static final int KEYS_OF_A_PANIC = 2;
    private static final int MOST_TRIPS = 99;
    private static final int MOST_TICKS = 99;
    private static final int MOST_TICKS_AHEAD = 200;
    private static final int MOST_HOLD = 9;
    private static final int MOST_FLOW = 4;
    private static final int UNDOABLE_CHANGES = 8;

    private static final int OUTSIDE = 0;
    private static final int INSIDE = 1;

    private static final int MODE_IN = 0;
    private static final int MODE_OUT = 1;
    private static final int MODE_BOTH = 2;

    private static final int STATE_NUMBERS = 16;
    private static final int GATE_NUMBERS = 9;
    private static final int CARD_NUMBERS = 7;

    private final Input input;
    private final SetupReader reader;
    private final Row now;
    /** Never changed: what every setup text starts from. */
    private final Row blank;
    /** Where a setup text is tried, and where ticks pass that are only asked about. */
    private final Row trial;
    private final History history;
    private int errorAt;

    public GateRow() {
        input = new Input();
        reader = new SetupReader();
        now = new Row();
        blank = new Row();
        trial = new Row();
        history = new History();
        errorAt = NONE;
    }

    public int append(int w0, int w1, int w2, int w3, int w4) {
        if (input.filled > BUFFER_BYTES - APPENDED_BYTES) {
            return -1;
        }
        input.addBytesOf(w0);
        input.addBytesOf(w1);
        input.addBytesOf(w2);
        input.addBytesOf(w3);
        input.addBytesOf(w4);
        return input.filled;
    }

    public int load(int length) throws IllegalArgumentException {
        requireBuffered(length);
        trial.copyFrom(blank);
        input.beginText(length);
        boolean isRight = reader.readSetup(input, trial);
        input.filled = 0;
        if (!isRight) {
            errorAt = reader.errorAt;
            return reader.error;
        }
        errorAt = NONE;
        history.remember(now);
        now.copyFrom(trial);
        return now.gateCount;
    }

    public int errorOffset() {
        return errorAt;
    }

    public int state(int what) throws IllegalArgumentException {
        if (what < 0 || what >= STATE_NUMBERS) {
            throw new IllegalArgumentException("what is out of range");
        }
        return now.numberOfState(what);
    }

    public int find(int length) throws IllegalArgumentException {
        requireBuffered(length);
        return now.cardNamed(input.nameOfFirst(length));
    }

    public int gate(int gate, int what) throws IndexOutOfBoundsException, IllegalArgumentException {
        requireGate(gate);
        if (what < 0 || what >= GATE_NUMBERS) {
            throw new IllegalArgumentException("what is out of range");
        }
        return now.gates[gate].numberOfGate(what);
    }

    public int card(int card, int what) throws IndexOutOfBoundsException, IllegalArgumentException {
        requireCard(card);
        if (what < 0 || what >= CARD_NUMBERS) {
            throw new IllegalArgumentException("what is out of range");
        }
        return now.numberOfCard(card, what);
    }

    public int inLine(int gate, int side, int place)
            throws IndexOutOfBoundsException, IllegalArgumentException, NoSuchElementException {
        requireGate(gate);
        requireSide(side);
        Line line = now.gates[gate].lineOn(side);
        if (!line.hasPlace(place)) {
            throw new NoSuchElementException("no such place");
        }
        return line.cardAt(place);
    }

    public int why(int card, int side) throws IndexOutOfBoundsException, IllegalArgumentException {
        requireCard(card);
        requireSide(side);
        return now.cards[card].reasonAgainst(side);
    }

    public int whyNotJoin(int gate, int side, int card)
            throws IndexOutOfBoundsException, IllegalArgumentException {
        requireGate(gate);
        requireCardOrNone(card);
        requireSide(side);
        return now.reasonNotToJoin(now.gates[gate], side, card);
    }

    public int bestGate(int side) throws IllegalArgumentException {
        requireSide(side);
        int best = NONE;
        int shortest = LINE_PLACES + 1;
        for (int g = 0; g < now.gateCount && g < now.gates.length; g++) {
            Gate candidate = now.gates[g];
            if (candidate.serves(side) && candidate.lineOn(side).size < shortest) {
                best = g;
                shortest = candidate.lineOn(side).size;
            }
        }
        return best;
    }

    public int nextSide(int gate) throws IndexOutOfBoundsException {
        requireGate(gate);
        return now.gates[gate].sideServedNext();
    }

    public int throughIn(int card) throws IndexOutOfBoundsException {
        requireCard(card);
        if (now.gateWithInLine(card) == NONE) {
            return NONE;
        }
        trial.copyFrom(now);
        for (int t = 1; t <= MOST_TICKS_AHEAD; t++) {
            trial.passTicks(1);
            if (trial.cards[card].passages != now.cards[card].passages) {
                return t;
            }
        }
        return NONE;
    }

    public int insideIn(int ticks) throws IllegalArgumentException {
        requireTicks(ticks, MOST_TICKS_AHEAD);
        trial.copyFrom(now);
        trial.passTicks(ticks);
        return trial.inside;
    }

    public int followersIn(int ticks) throws IllegalArgumentException {
        requireTicks(ticks, MOST_TICKS_AHEAD);
        trial.copyFrom(now);
        trial.passTicks(ticks);
        return trial.followers - now.followers;
    }

    public int outInPanic() {
        int longest = 0;
        for (Gate each : now.gates) {
            longest = Math.max(longest, each.innerLine.size);
        }
        int ticks = 0;
        for (int waiting = longest; waiting > 0 && ticks < LINE_PLACES; waiting -= now.flow) {
            ticks++;
        }
        return ticks;
    }

    public int ranked(int rank) throws NoSuchElementException {
        for (int g = 0; g < now.gateCount && g < now.gates.length; g++) {
            if (now.gatesAheadOf(g) == rank) {
                return g;
            }
        }
        throw new NoSuchElementException("no such rank");
    }

    public int gap() {
        int unexplained = now.wentIn - now.wentOut - now.wentAwayInside - now.inside;
        return Math.abs(unexplained) + now.cardsInTwoLines() + now.peopleNotServed();
    }

    public float followerShare() {
        int went = now.wentIn + now.wentOut;
        if (went == 0) {
            return 0;
        }
        return (float) now.followers / (float) went;
    }

    public int join(int gate, int side, int card)
            throws IndexOutOfBoundsException, IllegalArgumentException {
        requireGate(gate);
        requireCardOrNone(card);
        requireSide(side);
        history.remember(now);
        int reason = now.reasonNotToJoin(now.gates[gate], side, card);
        if (reason != 0) {
            now.refusedToJoin++;
            return -reason;
        }
        Line line = now.gates[gate].lineOn(side);
        line.addLast(card);
        return line.size;
    }

    public int leave(int gate, int side, int place)
            throws IndexOutOfBoundsException, IllegalArgumentException, NoSuchElementException,
            IllegalStateException {
        requireGate(gate);
        requireSide(side);
        Line line = now.gates[gate].lineOn(side);
        if (!line.hasPlace(place)) {
            throw new NoSuchElementException("no such place");
        }
        if (place == 0 && now.gates[gate].isFirstDueOn(side)) {
            throw new IllegalStateException("they are due");
        }
        history.remember(now);
        line.removeAt(place);
        return line.size;
    }

    public int list(int card, boolean isListed) throws IndexOutOfBoundsException {
        requireCard(card);
        history.remember(now);
        now.cards[card].isListed = isListed;
        return now.listedCards();
    }

    public int charge(int card, int trips)
            throws IndexOutOfBoundsException, IllegalArgumentException, IllegalStateException {
        requireCard(card);
        if (trips < 1 || trips > MOST_TRIPS) {
            throw new IllegalArgumentException("trips is out of range");
        }
        if (now.cards[card].trips + trips > MOST_TRIPS) {
            throw new IllegalStateException("there would be too many trips");
        }
        history.remember(now);
        now.cards[card].trips += trips;
        return now.cards[card].trips;
    }

    public int mode(int gate, int mode)
            throws IndexOutOfBoundsException, IllegalArgumentException, IllegalStateException {
        requireGate(gate);
        if (mode < MODE_IN || mode > MODE_BOTH) {
            throw new IllegalArgumentException("mode is out of range");
        }
        if (!now.gates[gate].canTakeMode(mode)) {
            throw new IllegalStateException("paddles are open, or people would not be served");
        }
        history.remember(now);
        int before = now.gates[gate].mode;
        now.gates[gate].mode = mode;
        return before;
    }

    public int key(int key) throws IllegalArgumentException {
        if (key < 0 || key >= KEYS) {
            throw new IllegalArgumentException("key is out of range");
        }
        history.remember(now);
        now.turnKey(key);
        return now.turnedKeys();
    }

    public int tick(int ticks) throws IllegalArgumentException {
        requireTicks(ticks, MOST_TICKS);
        history.remember(now);
        int before = now.wentIn + now.wentOut;
        now.passTicks(ticks);
        return now.wentIn + now.wentOut - before;
    }

    public int undo() {
        if (history.count == 0) {
            return -1;
        }
        history.takeBack(now);
        return history.count;
    }

    public long checksum() {
        long sum = 0;
        for (int what = 0; what < STATE_NUMBERS; what++) {
            sum = 31 * sum + now.numberOfState(what);
        }
        for (int g = 0; g < now.gateCount && g < now.gates.length; g++) {
            for (int what = 0; what < GATE_NUMBERS; what++) {
                sum = 31 * sum + now.gates[g].numberOfGate(what);
            }
            sum = withLine(sum, now.gates[g].outerLine);
            sum = withLine(sum, now.gates[g].innerLine);
        }
        for (int c = 0; c < now.cardCount && c < now.cards.length; c++) {
            for (int what = 0; what < CARD_NUMBERS; what++) {
                sum = 31 * sum + now.numberOfCard(c, what);
            }
        }
        return sum;
    }

    private static long withLine(long before, Line line) {
        long sum = before;
        for (int place = 0; place < line.size && place < LINE_PLACES; place++) {
            sum = 31 * sum + line.cardAt(place);
        }
        return sum;
    }

    private void requireBuffered(int length) {
        if (length < 0 || length > input.filled) {
            throw new IllegalArgumentException("length is not that of buffered bytes");
        }
    }

    private void requireGate(int gate) {
        if (!now.hasGate(gate)) {
            throw new IndexOutOfBoundsException("no such gate");
        }
    }

    private void requireCard(int card) {
        if (!now.hasCard(card)) {
            throw new IndexOutOfBoundsException("no such card");
        }
    }

    private void requireCardOrNone(int card) {
        if (card != NONE && !now.hasCard(card)) {
            throw new IndexOutOfBoundsException("no such card");
        }
    }

    private static void requireSide(int side) {
        if (side != OUTSIDE && side != INSIDE) {
            throw new IllegalArgumentException("side is not 0 or 1");
        }
    }

    private static void requireTicks(int ticks, int most) {
        if (ticks < 1 || ticks > most) {
            throw new IllegalArgumentException("ticks is out of range");
        }
    }

    /** People one behind the other; each is told by their card, or by NONE. */
    private static final class Line {
        private final int[] people = new int[LINE_PLACES];
        private int size;

        void copyFrom(Line other) {
            size = other.size;
            for (int p = 0; p < people.length && p < other.people.length; p++) {
                people[p] = other.people[p];
            }
        }

        boolean isFull() {
            return size >= people.length;
        }

        boolean hasPlace(int place) {
            return place >= 0 && place < size && place < people.length;
        }

        int cardAt(int place) {
            return hasPlace(place) ? people[place] : NONE;
        }

        int placeOf(int card) {
            for (int p = 0; p < size && p < people.length; p++) {
                if (people[p] == card) {
                    return p;
                }
            }
            return NONE;
        }

        int firstPlaceWithCard() {
            for (int p = 0; p < size && p < people.length; p++) {
                if (people[p] != NONE) {
                    return p;
                }
            }
            return NONE;
        }

        boolean isFirstWithoutCard() {
            return size > 0 && people[0] == NONE;
        }

        void addLast(int card) {
            if (size >= 0 && size < people.length) {
                people[size] = card;
                size++;
            }
        }

        int removeAt(int place) {
            if (place < 0 || place >= size || place >= people.length) {
                return NONE;
            }
            int card = people[place];
            for (int p = place; p + 1 < size && p + 1 < people.length; p++) {
                people[p] = people[p + 1];
            }
            size--;
            return card;
        }

        void bringToFront(int place) {
            if (place < 0 || place >= size || place >= people.length) {
                return;
            }
            int card = people[place];
            for (int p = place; p > 0; p--) {
                people[p] = people[p - 1];
            }
            people[0] = card;
        }
    }

    private static final class Gate {
        private final Line outerLine = new Line();
        private final Line innerLine = new Line();
        private int mode;
        private int openTicks;
        private int openSide = NONE;
        private boolean isSomebodyDue;
        private int alarms;
        private int openings;
        private int lastSide = NONE;

        void copyFrom(Gate other) {
            outerLine.copyFrom(other.outerLine);
            innerLine.copyFrom(other.innerLine);
            mode = other.mode;
            openTicks = other.openTicks;
            openSide = other.openSide;
            isSomebodyDue = other.isSomebodyDue;
            alarms = other.alarms;
            openings = other.openings;
            lastSide = other.lastSide;
        }

        int numberOfGate(int what) {
            switch (what) {
                case 0: return mode;
                case 1: return openTicks;
                case 2: return openSide;
                case 3: return isSomebodyDue ? 1 : 0;
                case 4: return outerLine.size;
                case 5: return innerLine.size;
                case 6: return alarms;
                case 7: return openings;
                default: return lastSide;
            }
        }

        Line lineOn(int side) {
            return side == INSIDE ? innerLine : outerLine;
        }

        int peopleInLines() {
            return outerLine.size + innerLine.size;
        }

        boolean serves(int side) {
            return servesInMode(mode, side);
        }

        static boolean servesInMode(int mode, int side) {
            return mode == MODE_BOTH || mode == (side == INSIDE ? MODE_OUT : MODE_IN);
        }

        int peopleNotServedIn(int anyMode) {
            int people = 0;
            if (!servesInMode(anyMode, OUTSIDE)) {
                people += outerLine.size;
            }
            if (!servesInMode(anyMode, INSIDE)) {
                people += innerLine.size;
            }
            return people;
        }

        boolean canTakeMode(int newMode) {
            return !isOpen() && peopleNotServedIn(newMode) == 0;
        }

        boolean isOpen() {
            return openTicks > 0;
        }

        /** The one who is due is always the first of the line of the side that is open. */
        boolean isFirstDueOn(int side) {
            return isSomebodyDue && openSide == side;
        }

        int sideServedNext() {
            if (mode == MODE_IN) {
                return OUTSIDE;
            }
            if (mode == MODE_OUT) {
                return INSIDE;
            }
            if (outerLine.size != innerLine.size) {
                return outerLine.size > innerLine.size ? OUTSIDE : INSIDE;
            }
            return lastSide == OUTSIDE ? INSIDE : OUTSIDE;
        }

        void openFor(int side, int ticks) {
            openTicks = ticks;
            openSide = side;
            isSomebodyDue = true;
            openings++;
            lastSide = side;
        }

        void closePaddles() {
            openTicks = 0;
            openSide = NONE;
            isSomebodyDue = false;
        }
    }

    private static final class Card {
        private int name;
        private int trips;
        private boolean isInside;
        private boolean isListed;
        private int passages;

        void copyFrom(Card other) {
            name = other.name;
            trips = other.trips;
            isInside = other.isInside;
            isListed = other.isListed;
            passages = other.passages;
        }

        int reasonAgainst(int side) {
            if (isListed) {
                return 1;
            }
            if (isInside != (side == INSIDE)) {
                return 2;
            }
            if (side == OUTSIDE && trips == 0) {
                return 3;
            }
            return 0;
        }

        void passFrom(int side) {
            isInside = side == OUTSIDE;
            if (side == OUTSIDE) {
                trips--;
            }
            passages++;
        }
    }

    /**
     * All data that a setup text tells and that changes change. Gates and cards that were not
     * told stand in the arrays as they were made: closed, with empty lines, on no list.
     */
    private static final class Row {
        private final Gate[] gates = new Gate[MOST_GATES];
        private final Card[] cards = new Card[MOST_CARDS];
        private int gateCount;
        private int cardCount;
        private int hold = 3;
        private int flow = 2;
        private int keyBits;
        private int ticks;
        private int inside;
        private int wentIn;
        private int wentOut;
        private int followers;
        private int wentAway;
        private int wentAwayInside;
        private int refusedToJoin;
        private int wentOutInPanic;

        Row() {
            for (int g = 0; g < gates.length; g++) {
                gates[g] = new Gate();
            }
            for (int c = 0; c < cards.length; c++) {
                cards[c] = new Card();
            }
        }

        void copyFrom(Row other) {
            for (int g = 0; g < gates.length && g < other.gates.length; g++) {
                gates[g].copyFrom(other.gates[g]);
            }
            for (int c = 0; c < cards.length && c < other.cards.length; c++) {
                cards[c].copyFrom(other.cards[c]);
            }
            gateCount = other.gateCount;
            cardCount = other.cardCount;
            hold = other.hold;
            flow = other.flow;
            keyBits = other.keyBits;
            ticks = other.ticks;
            inside = other.inside;
            wentIn = other.wentIn;
            wentOut = other.wentOut;
            followers = other.followers;
            wentAway = other.wentAway;
            wentAwayInside = other.wentAwayInside;
            refusedToJoin = other.refusedToJoin;
            wentOutInPanic = other.wentOutInPanic;
        }

        boolean hasGate(int gate) {
            return gate >= 0 && gate < gateCount && gate < gates.length;
        }

        boolean hasCard(int card) {
            return card >= 0 && card < cardCount && card < cards.length;
        }

        boolean canTakeGate() {
            return gateCount >= 0 && gateCount < gates.length;
        }

        boolean canTakeCard() {
            return cardCount >= 0 && cardCount < cards.length;
        }

        void addGate(int mode) {
            if (gateCount >= 0 && gateCount < gates.length) {
                gates[gateCount].mode = mode;
                gateCount++;
            }
        }

        void addCard(int name, int trips) {
            if (cardCount >= 0 && cardCount < cards.length) {
                cards[cardCount].name = name;
                cards[cardCount].trips = trips;
                cardCount++;
            }
        }

        int cardNamed(int name) {
            for (int c = 0; c < cardCount && c < cards.length; c++) {
                if (cards[c].name == name) {
                    return c;
                }
            }
            return NONE;
        }

        int numberOfState(int what) {
            switch (what) {
                case 0: return gateCount;
                case 1: return cardCount;
                case 2: return hold;
                case 3: return flow;
                case 4: return ticks;
                case 5: return inside;
                case 6: return peopleInAllLines();
                case 7: return isPanic() ? 1 : 0;
                case 8: return turnedKeys();
                case 9: return wentIn;
                case 10: return wentOut;
                case 11: return followers;
                case 12: return wentAway;
                case 13: return refusedToJoin;
                case 14: return wentOutInPanic;
                default: return openGates();
            }
        }

        int numberOfCard(int card, int what) {
            if (!hasCard(card)) {
                return NONE;
            }
            switch (what) {
                case 0: return cards[card].trips;
                case 1: return cards[card].isInside ? 1 : 0;
                case 2: return cards[card].isListed ? 1 : 0;
                case 3: return gateWithInLine(card);
                case 4: return sideInLine(card);
                case 5: return placeInLine(card);
                default: return cards[card].passages;
            }
        }

        int gateWithInLine(int card) {
            for (int g = 0; g < gateCount && g < gates.length; g++) {
                if (gates[g].outerLine.placeOf(card) != NONE
                        || gates[g].innerLine.placeOf(card) != NONE) {
                    return g;
                }
            }
            return NONE;
        }

        int sideInLine(int card) {
            int g = gateWithInLine(card);
            if (!hasGate(g)) {
                return NONE;
            }
            return gates[g].outerLine.placeOf(card) != NONE ? OUTSIDE : INSIDE;
        }

        int placeInLine(int card) {
            int g = gateWithInLine(card);
            if (!hasGate(g)) {
                return NONE;
            }
            return gates[g].lineOn(sideInLine(card)).placeOf(card);
        }

        int peopleInAllLines() {
            int people = 0;
            for (Gate gate : gates) {
                people += gate.peopleInLines();
            }
            return people;
        }

        int peopleInInnerLines() {
            int people = 0;
            for (Gate gate : gates) {
                people += gate.innerLine.size;
            }
            return people;
        }

        int openGates() {
            int open = 0;
            for (Gate gate : gates) {
                if (gate.isOpen()) {
                    open++;
                }
            }
            return open;
        }

        int listedCards() {
            int listed = 0;
            for (Card card : cards) {
                if (card.isListed) {
                    listed++;
                }
            }
            return listed;
        }

        int cardsInTwoLines() {
            int doubled = 0;
            for (int c = 0; c < cardCount && c < cards.length; c++) {
                int lines = 0;
                for (Gate gate : gates) {
                    lines += gate.outerLine.placeOf(c) != NONE ? 1 : 0;
                    lines += gate.innerLine.placeOf(c) != NONE ? 1 : 0;
                }
                if (lines > 1) {
                    doubled++;
                }
            }
            return doubled;
        }

        int peopleNotServed() {
            int people = 0;
            for (Gate gate : gates) {
                people += gate.peopleNotServedIn(gate.mode);
            }
            return people;
        }

        int gatesAheadOf(int gate) {
            if (!hasGate(gate)) {
                return NONE;
            }
            int people = gates[gate].peopleInLines();
            int ahead = 0;
            for (int g = 0; g < gateCount && g < gates.length; g++) {
                int others = gates[g].peopleInLines();
                if (others > people || (others == people && g < gate)) {
                    ahead++;
                }
            }
            return ahead;
        }

        int reasonNotToJoin(Gate gate, int side, int card) {
            if (!gate.serves(side)) {
                return 1;
            }
            if (gate.lineOn(side).isFull()) {
                return 2;
            }
            if (card != NONE && gateWithInLine(card) != NONE) {
                return 3;
            }
            if (side == INSIDE && peopleInInnerLines() >= inside) {
                return 4;
            }
            return 0;
        }

        int turnedKeys() {
            return Integer.bitCount(keyBits);
        }

        boolean isPanic() {
            return turnedKeys() >= KEYS_OF_A_PANIC;
        }

        void turnKey(int key) {
            keyBits = keyBits ^ (1 << key);
            if (isPanic()) {
                for (Gate gate : gates) {
                    gate.closePaddles();
                }
            }
        }

        void passTicks(int count) {
            for (int t = 0; t < count; t++) {
                for (Gate gate : gates) {
                    if (isPanic()) {
                        letOutInPanic(gate.innerLine);
                    } else if (gate.isOpen()) {
                        letThroughPaddles(gate);
                    } else {
                        serveNext(gate);
                    }
                }
                ticks++;
            }
        }

        void letOutInPanic(Line line) {
            for (int n = 0; n < flow && line.size > 0; n++) {
                goThrough(line.removeAt(0), INSIDE);
                wentOutInPanic++;
            }
        }

        void letThroughPaddles(Gate gate) {
            Line line = gate.lineOn(gate.openSide);
            if (gate.isSomebodyDue) {
                gate.isSomebodyDue = false;
                goThrough(line.removeAt(0), gate.openSide);
            } else if (line.isFirstWithoutCard()) {
                goThrough(line.removeAt(0), gate.openSide);
                followers++;
                gate.alarms++;
            }
            gate.openTicks--;
            if (gate.openTicks == 0) {
                gate.closePaddles();
            }
        }

        void goThrough(int card, int side) {
            if (card >= 0 && card < cards.length) {
                cards[card].passFrom(side);
            }
            if (side == OUTSIDE) {
                wentIn++;
                inside++;
            } else {
                wentOut++;
                inside--;
            }
        }

        void serveNext(Gate gate) {
            int side = gate.sideServedNext();
            Line line = gate.lineOn(side);
            int place = line.firstPlaceWithCard();
            int card = line.cardAt(place);
            if (card < 0 || card >= cards.length) {
                return;
            }
            if (cards[card].reasonAgainst(side) == 0) {
                line.bringToFront(place);
                gate.openFor(side, hold);
                return;
            }
            line.removeAt(place);
            wentAway++;
            if (side == INSIDE) {
                wentAwayInside++;
                inside--;
            }
        }
    }

    /** The rows as they were ahead of the latest changes, in a ring. */
    private static final class History {
        private final Row[] rows = new Row[UNDOABLE_CHANGES];
        private int newest;
        private int count;

        History() {
            for (int i = 0; i < rows.length; i++) {
                rows[i] = new Row();
            }
        }

        void remember(Row row) {
            newest = newest + 1 < rows.length ? newest + 1 : 0;
            count = Math.min(count + 1, rows.length);
            if (newest >= 0 && newest < rows.length) {
                rows[newest].copyFrom(row);
            }
        }

        void takeBack(Row row) {
            if (count > 0 && newest >= 0 && newest < rows.length) {
                row.copyFrom(rows[newest]);
                newest = newest > 0 ? newest - 1 : rows.length - 1;
                count--;
            }
        }
    }

    /** The input buffer, and the tokens of the text at its beginning, one at a time. */
    private static final class Input {
        private static final int END = 0;
        private static final int NUMBER = 1;
        private static final int WORD = 2;
        private static final int SEMICOLON = 3;
        private static final int NO_TOKEN = 4;
        /** Above every range of the document: a longer number need not be told exactly. */
        private static final int LARGE_NUMBER = 1000;

        private final byte[] bytes = new byte[BUFFER_BYTES];
        private int filled;
        private int end;
        private int at;
        private int kind;
        private int start;
        private int number;
        private int letters;
        private int name;

        void addBytesOf(int word) {
            for (int shift = 24; shift >= 0; shift -= 8) {
                if (filled >= 0 && filled < bytes.length) {
                    bytes[filled] = (byte) (word >> shift);
                    filled++;
                }
            }
        }

        void beginText(int length) {
            end = length;
            at = 0;
            advance();
        }

        void advance() {
            while (at < end && byteAt(at) == ' ') {
                at++;
            }
            start = at;
            int first = byteAt(at);
            if (at >= end) {
                kind = END;
            } else if (isDigit(first)) {
                kind = NUMBER;
                readNumber();
            } else if (isLetter(first)) {
                kind = WORD;
                readWord();
            } else {
                kind = first == ';' ? SEMICOLON : NO_TOKEN;
                at++;
            }
        }

        void readNumber() {
            number = 0;
            for (; at < end && isDigit(byteAt(at)); at++) {
                number = Math.min(10 * number + (byteAt(at) - '0'), LARGE_NUMBER);
            }
        }

        void readWord() {
            letters = 0;
            name = 0;
            for (; at < end && isLetter(byteAt(at)); at++) {
                letters++;
                name = nameWith(name, byteAt(at));
            }
        }

        boolean isWord(String word) {
            if (kind != WORD || letters != word.length()) {
                return false;
            }
            int wanted = 0;
            for (int i = 0; i < word.length(); i++) {
                wanted = nameWith(wanted, word.charAt(i));
            }
            return name == wanted;
        }

        /** The name that the first bytes are; 0, which no card has, if they are none. */
        int nameOfFirst(int length) {
            if (length < 1 || length > NAME_LETTERS) {
                return 0;
            }
            int read = 0;
            for (int i = 0; i < length; i++) {
                if (!isLetter(byteAt(i))) {
                    return 0;
                }
                read = nameWith(read, byteAt(i));
            }
            return read;
        }

        int byteAt(int offset) {
            return offset >= 0 && offset < filled && offset < bytes.length ? bytes[offset] : 0;
        }

        /** Names are kept as numbers: different ones of up to 6 letters never share one. */
        static int nameWith(int name, int letter) {
            return 27 * name + (letter - 'a' + 1);
        }

        static boolean isDigit(int sign) {
            return sign >= '0' && sign <= '9';
        }

        static boolean isLetter(int sign) {
            return sign >= 'a' && sign <= 'z';
        }
    }

    /**
     * Reads a setup text and does at once what it tells. Each part answers whether it was
     * right; where it was not, the error is kept, and nothing behind it is read.
     */
    private static final class SetupReader {
        private int error;
        private int errorAt;

        boolean readSetup(Input input, Row row) {
            boolean isRight = readHead(input, row);
            for (int n = 0; isRight && n < BUFFER_BYTES && input.kind != Input.END; n++) {
                if (input.isWord("gate")) {
                    isRight = readGate(input, row);
                } else if (input.isWord("card")) {
                    isRight = readCard(input, row);
                } else if (input.isWord("list")) {
                    isRight = readList(input, row);
                } else if (input.isWord("wait")) {
                    isRight = readWait(input, row);
                } else if (input.isWord("tick")) {
                    isRight = readTick(input, row);
                } else if (input.isWord("key")) {
                    isRight = readKey(input, row);
                } else {
                    isRight = fail(SYNTAX_ERROR, input.start);
                }
                isRight = isRight && takeSemicolon(input);
            }
            return isRight;
        }

        boolean readHead(Input input, Row row) {
            if (!input.isWord("row")) {
                return fail(SYNTAX_ERROR, input.start);
            }
            input.advance();
            int hold = takeNumber(input, 1, MOST_HOLD);
            if (hold < 0) {
                return false;
            }
            int flow = takeNumber(input, 1, MOST_FLOW);
            if (flow < 0) {
                return false;
            }
            row.hold = hold;
            row.flow = flow;
            return takeSemicolon(input);
        }

        boolean readGate(Input input, Row row) {
            if (!row.canTakeGate()) {
                return fail(TOO_MANY, input.start);
            }
            input.advance();
            int mode = input.isWord("both") ? MODE_BOTH
                    : input.isWord("out") ? MODE_OUT
                    : input.isWord("in") ? MODE_IN : NONE;
            if (mode == NONE) {
                return fail(SYNTAX_ERROR, input.start);
            }
            input.advance();
            row.addGate(mode);
            return true;
        }

        boolean readCard(Input input, Row row) {
            if (!row.canTakeCard()) {
                return fail(TOO_MANY, input.start);
            }
            input.advance();
            if (!isNameNext(input)) {
                return false;
            }
            int name = input.name;
            if (row.cardNamed(name) != NONE) {
                return fail(NAME_ERROR, input.start);
            }
            input.advance();
            int trips = takeNumber(input, 0, MOST_TRIPS);
            if (trips < 0) {
                return false;
            }
            row.addCard(name, trips);
            return true;
        }

        boolean readList(Input input, Row row) {
            input.advance();
            int names = 0;
            do {
                int card = takeKnownCard(input, row);
                if (!row.hasCard(card)) {
                    return false;
                }
                row.cards[card].isListed = true;
                names++;
            } while (names < BUFFER_BYTES && input.kind == Input.WORD);
            return true;
        }

        /**
         * The line is looked at ahead of the semicolon: an error there has a larger offset.
         */
        boolean readWait(Input input, Row row) {
            input.advance();
            int gate = takeNumber(input, 0, row.gateCount - 1);
            if (!row.hasGate(gate)) {
                return false;
            }
            int sideAt = input.start;
            int side = input.isWord("in") ? OUTSIDE : input.isWord("out") ? INSIDE : NONE;
            if (side == NONE) {
                return fail(SYNTAX_ERROR, sideAt);
            }
            input.advance();
            int card = NONE;
            if (input.kind == Input.WORD) {
                card = takeKnownCard(input, row);
                if (card == NONE) {
                    return false;
                }
            }
            if (row.reasonNotToJoin(row.gates[gate], side, card) != 0) {
                return fail(REFUSED, sideAt);
            }
            row.gates[gate].lineOn(side).addLast(card);
            return true;
        }

        boolean readTick(Input input, Row row) {
            input.advance();
            int ticks = takeNumber(input, 1, MOST_TICKS);
            if (ticks < 0) {
                return false;
            }
            row.passTicks(ticks);
            return true;
        }

        boolean readKey(Input input, Row row) {
            input.advance();
            int key = takeNumber(input, 0, KEYS - 1);
            if (key < 0) {
                return false;
            }
            row.turnKey(key);
            return true;
        }

        boolean takeSemicolon(Input input) {
            if (input.kind != Input.SEMICOLON) {
                return fail(SYNTAX_ERROR, input.start);
            }
            input.advance();
            return true;
        }

        /** Answers the number, or NONE if there is no right one. */
        int takeNumber(Input input, int least, int most) {
            if (input.kind != Input.NUMBER) {
                fail(SYNTAX_ERROR, input.start);
                return NONE;
            }
            int number = input.number;
            if (number < least || number > most) {
                fail(OUT_OF_RANGE, input.start);
                return NONE;
            }
            input.advance();
            return number;
        }

        /** Answers the card of the name, or NONE if there is no right one. */
        int takeKnownCard(Input input, Row row) {
            if (!isNameNext(input)) {
                return NONE;
            }
            int card = row.cardNamed(input.name);
            if (card == NONE) {
                fail(NAME_ERROR, input.start);
                return NONE;
            }
            input.advance();
            return card;
        }

        boolean isNameNext(Input input) {
            if (input.kind != Input.WORD) {
                return fail(SYNTAX_ERROR, input.start);
            }
            if (input.letters > NAME_LETTERS) {
                return fail(OUT_OF_RANGE, input.start);
            }
            return true;
        }

        boolean fail(int code, int offset) {
            error = code;
            errorAt = offset;
            return false;
        }
    }
}
