/**
 * A decoder for remote controls that send pulses. All rows are made in the constructor and used
 * again by every call, so that no call makes objects.
 */
public final class PulseRemote {
    public static final int INVALID_ARGUMENT = -1;
    public static final int ILLEGAL_STATE = -2;
    public static final int CAPACITY_EXCEEDED = -3;
    public static final int NONE = -9;

    private static final int MAX_PROTOCOLS = 6;
    private static final int MAX_BUTTONS = 12;
    private static final int MAX_SAVED = 6;
    private static final int MAX_PRESSES = 30;
    private static final int MAX_TEXT = 160;
    private static final int MAX_DIGITS = 5;
    private static final int SLOTS = 3;
    private static final int MAX_TRAIN = 200;
    private static final int MAX_FRAMES = MAX_TRAIN / 2;
    private static final int MAX_DURATION = 60000;
    private static final int MAX_BITS = 16;
    /** A frame by distance has the most durations: the header, two for each bit, and a mark. */
    private static final int MAX_FRAME = 2 * MAX_BITS + 3;
    private static final int MIN_LENGTH = 50;
    private static final int MAX_LENGTH = 20000;
    private static final int MIN_LIMIT = 1000;
    private static final int MAX_LIMIT = 60000;
    private static final int MAX_TOLERANCE = 40;
    private static final int MAX_PERCENT = 30;
    private static final int MIN_STEP = 50;
    private static final int MAX_STEP = 2000;
    private static final int OFFSETS_TRIED = 30;
    private static final int LEAST_TO_LEARN = 5;
    private static final int TEXT_ERROR = -10;

    private static final int DISTANCE = 0;
    private static final int WIDTH = 1;
    private static final int PHASE = 2;
    private static final int LOWEST_FIRST = 1;
    private static final int WHOLE = 0;
    private static final int SHORT = 1;
    private static final int TOGGLED = 2;

    private State state = new State();
    private final State[] saved = new State[MAX_SAVED];
    private int savedCount;
    private final Text text = new Text();
    private final Table draft = new Table();
    private final Train scratch = new Train();
    private final Train[] buttonFrames = new Train[MAX_BUTTONS];
    private final FrameList frames = new FrameList();
    private final Decoder decoder = new Decoder();
    private final PressList presses = new PressList();
    private final Learner learner = new Learner();
    private final Collision collision = new Collision();

    public PulseRemote() {
        for (int i = 0; i < MAX_SAVED; i++) {
            saved[i] = new State();
        }
        for (int i = 0; i < MAX_BUTTONS; i++) {
            buttonFrames[i] = new Train();
        }
    }

    // ---- protocols and buttons

    public int addProtocol(int kind, int bits, int order, int repetition) {
        if (!inRange(kind, DISTANCE, PHASE) || !inRange(bits, 1, MAX_BITS)
                || !inRange(order, 0, LOWEST_FIRST) || !inRange(repetition, WHOLE, TOGGLED)) {
            return INVALID_ARGUMENT;
        }
        if (state.table.protocolsFull()) {
            return CAPACITY_EXCEEDED;
        }
        saveState();
        return state.table.newProtocol(kind, bits, order, repetition);
    }

    public int setLengths(int protocol, int h, int s, int a, int b, int c) {
        if (!state.table.hasProtocol(protocol)) {
            return INVALID_ARGUMENT;
        }
        Protocol changed = state.table.protocolAt(protocol);
        if (!lengthsPossible(changed.kind, h, s, a, b, c)) {
            return INVALID_ARGUMENT;
        }
        int previous = changed.a;
        saveState();
        changed.useLengths(h, s, a, b, c);
        return previous;
    }

    public int protocol(int protocol, int what) {
        if (!state.table.hasProtocol(protocol)) {
            return INVALID_ARGUMENT;
        }
        Protocol asked = state.table.protocolAt(protocol);
        switch (what) {
            case 0: return asked.kind;
            case 1: return asked.headerMark;
            case 2: return asked.headerSpace;
            case 3: return asked.a;
            case 4: return asked.b;
            case 5: return asked.c;
            case 6: return asked.bits;
            case 7: return asked.order;
            case 8: return asked.repetition;
            default: return INVALID_ARGUMENT;
        }
    }

    public int count(int what) {
        switch (what) {
            case 0: return state.table.protocolCount;
            case 1: return state.table.buttonCount;
            case 2: return text.size;
            case 3: return savedCount;
            default: return INVALID_ARGUMENT;
        }
    }

    public int learn(int slot) {
        if (!isSlot(slot)) {
            return INVALID_ARGUMENT;
        }
        frames.split(state.trainAt(slot), state.gap);
        if (!learner.gather(frames) || !learner.conclude()) {
            return ILLEGAL_STATE;
        }
        if (state.table.protocolsFull()) {
            return CAPACITY_EXCEEDED;
        }
        saveState();
        int number = state.table.newProtocol(learner.kind, learner.bits, 0, WHOLE);
        state.table.protocolAt(number).useLengths(
                learner.headerMark, learner.headerSpace, learner.a, learner.b, learner.c);
        return number;
    }

    public int clusters(int slot, int what) {
        if (!isSlot(slot) || !inRange(what, 0, 1)) {
            return INVALID_ARGUMENT;
        }
        frames.split(state.trainAt(slot), state.gap);
        if (!learner.gather(frames)) {
            return ILLEGAL_STATE;
        }
        return what == 0 ? learner.marks.clusterCount : learner.spaces.clusterCount;
    }

    public int addButton(int protocol, int code) {
        Table table = state.table;
        if (!table.hasProtocol(protocol) || !table.protocolAt(protocol).hasCode(code)) {
            return INVALID_ARGUMENT;
        }
        int identity = table.protocolAt(protocol).identityOf(code);
        if (table.findButton(protocol, identity) != NONE) {
            return ILLEGAL_STATE;
        }
        if (table.buttonsFull()) {
            return CAPACITY_EXCEEDED;
        }
        saveState();
        return table.newButton(protocol, identity);
    }

    public int button(int button, int part) {
        if (!state.table.hasButton(button) || !inRange(part, 0, 1)) {
            return INVALID_ARGUMENT;
        }
        return part == 0 ? state.table.protocolOfButton(button) : state.table.identityOfButton(button);
    }

    public int setGap(int gap) {
        if (!inRange(gap, MIN_LIMIT, MAX_LIMIT)) {
            return INVALID_ARGUMENT;
        }
        saveState();
        int previous = state.gap;
        state.gap = gap;
        return previous;
    }

    public int setHold(int hold) {
        if (!inRange(hold, MIN_LIMIT, MAX_LIMIT)) {
            return INVALID_ARGUMENT;
        }
        saveState();
        int previous = state.hold;
        state.hold = hold;
        return previous;
    }

    public int setTolerance(int tolerance) {
        if (!inRange(tolerance, 0, MAX_TOLERANCE)) {
            return INVALID_ARGUMENT;
        }
        saveState();
        int previous = state.tolerance;
        state.tolerance = tolerance;
        return previous;
    }

    // ---- text

    public int appendCharacter(int character) {
        if (!inRange(character, 0, 255)) {
            return INVALID_ARGUMENT;
        }
        if (text.size >= MAX_TEXT) {
            return CAPACITY_EXCEEDED;
        }
        text.put((char) character);
        return text.size;
    }

    public int clearText() {
        int previous = text.size;
        text.size = 0;
        return previous;
    }

    public int load() {
        int items = text.readTable(draft);
        if (items == NONE) {
            return TEXT_ERROR - text.tokenStart;
        }
        saveState();
        state.table.copyFrom(draft);
        text.size = 0;
        return items;
    }

    // ---- trains

    public int append(int slot, int duration) {
        if (!isSlot(slot) || !inRange(duration, 1, MAX_DURATION)) {
            return INVALID_ARGUMENT;
        }
        Train train = state.trainAt(slot);
        if (train.size >= MAX_TRAIN) {
            return CAPACITY_EXCEEDED;
        }
        saveState();
        train.put(duration);
        return train.size;
    }

    public int send(int slot, int protocol, int code, int space) {
        if (!isSlot(slot) || !state.table.hasProtocol(protocol)
                || !state.table.protocolAt(protocol).hasCode(code) || !inRange(space, 1, MAX_DURATION)) {
            return INVALID_ARGUMENT;
        }
        state.table.protocolAt(protocol).writeFrame(code, scratch);
        return appendScratch(state.trainAt(slot), space);
    }

    public int sendShort(int slot, int protocol, int space) {
        if (!isSlot(slot) || !state.table.hasProtocol(protocol) || !inRange(space, 1, MAX_DURATION)) {
            return INVALID_ARGUMENT;
        }
        state.table.protocolAt(protocol).writeShortFrame(scratch);
        return appendScratch(state.trainAt(slot), space);
    }

    public int clear(int slot) {
        if (!isSlot(slot)) {
            return INVALID_ARGUMENT;
        }
        saveState();
        Train train = state.trainAt(slot);
        int previous = train.size;
        train.size = 0;
        return previous;
    }

    public int overlay(int slot, int over, int offset) {
        if (!isSlot(slot) || !isSlot(over) || slot == over || !inRange(offset, 0, MAX_DURATION)) {
            return INVALID_ARGUMENT;
        }
        Train train = state.trainAt(slot);
        Train laidOver = state.trainAt(over);
        if (!train.endsWithMark() || !laidOver.endsWithMark()) {
            return ILLEGAL_STATE;
        }
        collision.lay(train, laidOver);
        collision.begin(offset);
        if (!collision.writeTo(scratch) || scratch.longest() > MAX_DURATION) {
            return CAPACITY_EXCEEDED;
        }
        saveState();
        train.copyFrom(scratch);
        return train.size;
    }

    public int distort(int slot, int percent, int turn) {
        if (!isSlot(slot) || !inRange(percent, 0, MAX_PERCENT) || !inRange(turn, 0, 1)) {
            return INVALID_ARGUMENT;
        }
        saveState();
        return state.trainAt(slot).stretch(turn == 0 ? percent : -percent);
    }

    public int duration(int slot, int index) {
        if (!isSlot(slot) || index < 0) {
            return INVALID_ARGUMENT;
        }
        Train train = state.trainAt(slot);
        return index < train.size ? train.at(index) : NONE;
    }

    public int length(int slot) {
        return isSlot(slot) ? state.trainAt(slot).size : INVALID_ARGUMENT;
    }

    // ---- decoding

    public int frameCount(int slot) {
        if (!isSlot(slot)) {
            return INVALID_ARGUMENT;
        }
        frames.split(state.trainAt(slot), state.gap);
        return frames.total;
    }

    public int frame(int slot, int frame, int what) {
        if (!isSlot(slot) || frame < 0 || !inRange(what, 0, 4)) {
            return INVALID_ARGUMENT;
        }
        frames.split(state.trainAt(slot), state.gap);
        if (frame >= frames.total) {
            return NONE;
        }
        if (what < 2) {
            return what == 0 ? frames.startOf(frame) : frames.sizeOf(frame);
        }
        decoder.decode(state.table, frames, frame, state.tolerance);
        if (what == 2 || !decoder.isDecoded()) {
            return decoder.protocol;
        }
        if (what == 3) {
            return decoder.code;
        }
        return decoder.isCode() ? 0 : 1;
    }

    public int deviation(int slot, int frame) {
        if (!isSlot(slot) || frame < 0) {
            return INVALID_ARGUMENT;
        }
        frames.split(state.trainAt(slot), state.gap);
        if (frame >= frames.total) {
            return NONE;
        }
        decoder.decode(state.table, frames, frame, state.tolerance);
        if (!decoder.isDecoded()) {
            return NONE;
        }
        Protocol protocol = state.table.protocolAt(decoder.protocol);
        if (decoder.isCode()) {
            protocol.writeFrame(decoder.code, scratch);
        } else {
            protocol.writeShortFrame(scratch);
        }
        return worstDeviation(frame, scratch);
    }

    public int pressCount(int slot) {
        if (!isSlot(slot)) {
            return INVALID_ARGUMENT;
        }
        presses.find(state, slot, frames, decoder);
        return presses.listed;
    }

    public int press(int slot, int press, int what) {
        if (!isSlot(slot) || press < 0 || !inRange(what, 0, 3)) {
            return INVALID_ARGUMENT;
        }
        presses.find(state, slot, frames, decoder);
        if (press >= presses.listed) {
            return NONE;
        }
        switch (what) {
            case 0: return presses.protocols[press];
            case 1: return presses.codes[press];
            case 2: return presses.counts[press];
            default: return state.table.findButtonOf(presses.protocols[press], presses.codes[press]);
        }
    }

    public int strayCount(int slot) {
        if (!isSlot(slot)) {
            return INVALID_ARGUMENT;
        }
        presses.find(state, slot, frames, decoder);
        return presses.strays;
    }

    public int neededTolerance(int slot) {
        if (!isSlot(slot)) {
            return INVALID_ARGUMENT;
        }
        frames.split(state.trainAt(slot), state.gap);
        int needed = 0;
        for (int frame = 0; frame < frames.total; frame++) {
            needed = toleranceFor(frame, needed);
            if (needed == NONE) {
                return NONE;
            }
        }
        return needed;
    }

    // ---- collisions

    public int explain(int slot, int step, int part) {
        if (!isSlot(slot) || !inRange(step, MIN_STEP, MAX_STEP) || !inRange(part, 0, 2)) {
            return INVALID_ARGUMENT;
        }
        Train train = state.trainAt(slot);
        int buttons = state.table.buttonCount;
        writeButtonFrames();
        for (int i = 0; i < buttons; i++) {
            for (int j = 0; j < buttons; j++) {
                int offset = explainingOffset(train, buttonFrameAt(i), buttonFrameAt(j), step);
                if (offset != NONE) {
                    return part == 0 ? i : part == 1 ? j : offset;
                }
            }
        }
        return NONE;
    }

    public int ghosts(int offset) {
        if (!inRange(offset, 0, MAX_DURATION)) {
            return INVALID_ARGUMENT;
        }
        int buttons = state.table.buttonCount;
        int pairs = 0;
        writeButtonFrames();
        for (int i = 0; i < buttons; i++) {
            for (int j = i; j < buttons; j++) {
                if (showsGhost(i, j, offset)) {
                    pairs++;
                }
            }
        }
        return pairs;
    }

    // ---- undo

    public int undo() {
        if (savedCount <= 0) {
            return ILLEGAL_STATE;
        }
        savedCount--;
        State left = state;
        state = saved[savedCount];
        saved[savedCount] = left;
        return savedCount;
    }

    // ---- what the methods share

    private static boolean inRange(int value, int low, int high) {
        return value >= low && value <= high;
    }

    private static boolean isSlot(int slot) {
        return slot >= 0 && slot < SLOTS;
    }

    private static boolean isLength(int value) {
        return inRange(value, MIN_LENGTH, MAX_LENGTH);
    }

    private static boolean lengthsPossible(int kind, int h, int s, int a, int b, int c) {
        if (!isLength(h) || !isLength(s) || !isLength(a)) {
            return false;
        }
        return kind == PHASE ? b == 0 && c == 0 : isLength(b) && isLength(c) && b != c;
    }

    private static boolean matches(int duration, int length, int tolerance) {
        int difference = duration > length ? duration - length : length - duration;
        return 100 * difference <= length * tolerance;
    }

    /** Saves the state before a change; the oldest state's rows are used again for a seventh one. */
    private void saveState() {
        if (savedCount >= MAX_SAVED) {
            State oldest = saved[0];
            for (int i = 1; i < MAX_SAVED; i++) {
                saved[i - 1] = saved[i];
            }
            saved[MAX_SAVED - 1] = oldest;
            savedCount = MAX_SAVED - 1;
        }
        saved[savedCount].copyFrom(state);
        savedCount++;
    }

    private int appendScratch(Train train, int space) {
        if (train.size > 0 && !train.endsWithMark()) {
            return ILLEGAL_STATE;
        }
        int between = train.size > 0 ? 1 : 0;
        if (train.size + between + scratch.size > MAX_TRAIN) {
            return CAPACITY_EXCEEDED;
        }
        saveState();
        if (between > 0) {
            train.put(space);
        }
        for (int i = 0; i < scratch.size; i++) {
            train.put(scratch.at(i));
        }
        return train.size;
    }

    private int worstDeviation(int frame, Train expected) {
        int worst = 0;
        for (int i = 0; i < expected.size; i++) {
            int length = expected.at(i);
            if (length > 0) {
                worst = Math.max(worst, 1000 * Math.abs(frames.durationAt(frame, i) - length) / length);
            }
        }
        return worst;
    }

    /** The least tolerance from least on with which the frame decodes, or NONE. */
    private int toleranceFor(int frame, int least) {
        for (int tolerance = least; tolerance <= MAX_TOLERANCE; tolerance++) {
            decoder.decode(state.table, frames, frame, tolerance);
            if (decoder.isDecoded()) {
                return tolerance;
            }
        }
        return NONE;
    }

    private void writeButtonFrames() {
        Table table = state.table;
        for (int i = 0; i < table.buttonCount; i++) {
            Protocol protocol = table.protocolAt(table.protocolOfButton(i));
            protocol.writeFrame(table.identityOfButton(i), buttonFrameAt(i));
        }
    }

    private Train buttonFrameAt(int button) {
        return buttonFrames[button >= 0 && button < MAX_BUTTONS ? button : 0];
    }

    /** The first offset with which the collision of two frames is the train, or NONE. */
    private int explainingOffset(Train train, Train first, Train second, int step) {
        collision.lay(first, second);
        for (int k = 0; k < OFFSETS_TRIED; k++) {
            if (isCollision(train, k * step)) {
                return k * step;
            }
        }
        return NONE;
    }

    private boolean isCollision(Train train, int offset) {
        collision.begin(offset);
        for (int i = 0; i < train.size; i++) {
            // behind its end the collision gives 0, which no duration matches
            if (!matches(train.at(i), collision.nextDuration(), state.tolerance)) {
                return false;
            }
        }
        return collision.nextDuration() == 0;
    }

    private boolean showsGhost(int i, int j, int offset) {
        collision.lay(buttonFrameAt(i), buttonFrameAt(j));
        collision.begin(offset);
        collision.writeTo(scratch);
        frames.split(scratch, state.gap);
        for (int frame = 0; frame < frames.total; frame++) {
            decoder.decode(state.table, frames, frame, state.tolerance);
            if (decoder.isCode()) {
                int shown = state.table.findButtonOf(decoder.protocol, decoder.code);
                if (shown != NONE && shown != i && shown != j) {
                    return true;
                }
            }
        }
        return false;
    }

    /** Durations that are marks and spaces alternately. */
    private static final class Train {
        private final int[] durations = new int[MAX_TRAIN];
        private int size;

        /** The duration, or 0 where there is none. */
        int at(int index) {
            return index >= 0 && index < size && index < MAX_TRAIN ? durations[index] : 0;
        }

        void put(int duration) {
            if (size >= 0 && size < MAX_TRAIN) {
                durations[size] = duration;
                size++;
            }
        }

        boolean endsWithMark() {
            return size % 2 == 1;
        }

        /** Puts a mark or a space, as a part of the last duration if that is one, too. */
        void join(boolean mark, int duration) {
            if (size > 0 && size <= MAX_TRAIN && endsWithMark() == mark) {
                durations[size - 1] += duration;
            } else {
                put(duration);
            }
        }

        int longest() {
            int longest = 0;
            for (int i = 0; i < size; i++) {
                longest = Math.max(longest, at(i));
            }
            return longest;
        }

        /** Shortens every third duration from the first on, lengthens every third from the third on. */
        int stretch(int percent) {
            int changed = 0;
            for (int i = 0; i < size && i < MAX_TRAIN; i++) {
                int part = i % 3 == 0 ? -percent : i % 3 == 1 ? 0 : percent;
                // the sum is divided as one, since a negative part alone would be rounded up
                int result = durations[i] * (100 + part) / 100;
                result = Math.min(Math.max(result, 1), MAX_DURATION);
                if (result != durations[i]) {
                    changed++;
                }
                durations[i] = result;
            }
            return changed;
        }

        void copyFrom(Train other) {
            size = Math.min(Math.max(other.size, 0), MAX_TRAIN);
            System.arraycopy(other.durations, 0, durations, 0, size);
        }
    }

    /** A coding: its lengths, and the frames that it gives. */
    private static final class Protocol {
        private int kind;
        private int headerMark;
        private int headerSpace;
        private int a;
        private int b;
        private int c;
        private int bits;
        private int order;
        private int repetition;

        void useShape(int newKind, int newBits, int newOrder, int newRepetition) {
            kind = newKind;
            bits = newBits;
            order = newOrder;
            repetition = newRepetition;
        }

        void useLengths(int h, int s, int newA, int newB, int newC) {
            headerMark = h;
            headerSpace = s;
            a = newA;
            b = newB;
            c = newC;
        }

        void copyFrom(Protocol other) {
            useShape(other.kind, other.bits, other.order, other.repetition);
            useLengths(other.headerMark, other.headerSpace, other.a, other.b, other.c);
        }

        boolean hasCode(int code) {
            return code >= 0 && code < 1 << bits;
        }

        /** The bit of a code that is sent at a place of the order. */
        int maskAt(int place) {
            return order == LOWEST_FIRST ? 1 << place : 1 << (bits - 1 - place);
        }

        int identityOf(int code) {
            return repetition == TOGGLED ? code & ~maskAt(0) : code;
        }

        void writeFrame(int code, Train out) {
            out.size = 0;
            out.put(headerMark);
            out.put(headerSpace);
            for (int place = 0; place < bits; place++) {
                writeBit((code & maskAt(place)) != 0, place, out);
            }
            if (kind == DISTANCE) {
                out.put(a);
            }
            if (!out.endsWithMark()) {
                out.size--;
            }
        }

        private void writeBit(boolean one, int place, Train out) {
            if (kind == PHASE) {
                out.join(one, a);
                out.join(!one, a);
            } else if (kind == WIDTH) {
                if (place > 0) {
                    out.put(a);
                }
                out.put(one ? c : b);
            } else {
                out.put(a);
                out.put(one ? c : b);
            }
        }

        void writeShortFrame(Train out) {
            out.size = 0;
            out.put(headerMark);
            out.put(headerSpace / 2);
            out.put(a);
        }
    }

    /** The protocols and the buttons. */
    private static final class Table {
        private final Protocol[] protocols = new Protocol[MAX_PROTOCOLS];
        private int protocolCount;
        private final int[] buttonProtocols = new int[MAX_BUTTONS];
        private final int[] buttonIdentities = new int[MAX_BUTTONS];
        private int buttonCount;

        Table() {
            for (int i = 0; i < MAX_PROTOCOLS; i++) {
                protocols[i] = new Protocol();
            }
        }

        void copyFrom(Table other) {
            for (int i = 0; i < MAX_PROTOCOLS; i++) {
                protocols[i].copyFrom(other.protocols[i]);
            }
            System.arraycopy(other.buttonProtocols, 0, buttonProtocols, 0, MAX_BUTTONS);
            System.arraycopy(other.buttonIdentities, 0, buttonIdentities, 0, MAX_BUTTONS);
            protocolCount = other.protocolCount;
            buttonCount = other.buttonCount;
        }

        void makeEmpty() {
            protocolCount = 0;
            buttonCount = 0;
        }

        boolean hasProtocol(int number) {
            return number >= 0 && number < protocolCount;
        }

        Protocol protocolAt(int number) {
            return protocols[number >= 0 && number < MAX_PROTOCOLS ? number : 0];
        }

        boolean protocolsFull() {
            return protocolCount >= MAX_PROTOCOLS;
        }

        /** Only for a table whose protocols are not full. */
        int newProtocol(int kind, int bits, int order, int repetition) {
            Protocol added = protocolAt(protocolCount);
            added.useShape(kind, bits, order, repetition);
            added.useLengths(9000, 4500, 560, kind == PHASE ? 0 : 560, kind == PHASE ? 0 : 1690);
            protocolCount++;
            return protocolCount - 1;
        }

        boolean hasButton(int number) {
            return number >= 0 && number < buttonCount && number < MAX_BUTTONS;
        }

        boolean buttonsFull() {
            return buttonCount >= MAX_BUTTONS;
        }

        /** Only for a table whose buttons are not full. */
        int newButton(int protocol, int identity) {
            buttonCount++;
            if (hasButton(buttonCount - 1)) {
                buttonProtocols[buttonCount - 1] = protocol;
                buttonIdentities[buttonCount - 1] = identity;
            }
            return buttonCount - 1;
        }

        int protocolOfButton(int number) {
            return hasButton(number) ? buttonProtocols[number] : NONE;
        }

        int identityOfButton(int number) {
            return hasButton(number) ? buttonIdentities[number] : NONE;
        }

        int findButton(int protocol, int identity) {
            for (int i = 0; i < buttonCount; i++) {
                if (protocolOfButton(i) == protocol && identityOfButton(i) == identity) {
                    return i;
                }
            }
            return NONE;
        }

        int findButtonOf(int protocol, int code) {
            return findButton(protocol, protocolAt(protocol).identityOf(code));
        }
    }

    /** All that undo() brings back. */
    private static final class State {
        private final Table table = new Table();
        private final Train[] trains = new Train[SLOTS];
        private int gap = 10000;
        private int hold = 40000;
        private int tolerance = 20;

        State() {
            for (int i = 0; i < SLOTS; i++) {
                trains[i] = new Train();
            }
        }

        Train trainAt(int slot) {
            return trains[isSlot(slot) ? slot : 0];
        }

        void copyFrom(State other) {
            table.copyFrom(other.table);
            for (int i = 0; i < SLOTS; i++) {
                trains[i].copyFrom(other.trains[i]);
            }
            gap = other.gap;
            hold = other.hold;
            tolerance = other.tolerance;
        }
    }

    /** Where the frames of a train stand. */
    private static final class FrameList {
        private final int[] starts = new int[MAX_FRAMES];
        private final int[] sizes = new int[MAX_FRAMES];
        private int total;
        private final Train train = new Train();

        void split(Train whole, int gap) {
            train.copyFrom(whole);
            total = 0;
            if (train.size == 0) {
                return;
            }
            int end = train.endsWithMark() ? train.size : train.size - 1;
            int start = 0;
            for (int i = 1; i < end; i += 2) {
                if (train.at(i) > gap) {
                    note(start, i - start);
                    start = i + 1;
                }
            }
            note(start, end - start);
        }

        private void note(int start, int size) {
            if (total < MAX_FRAMES) {
                starts[total] = start;
                sizes[total] = size;
                total++;
            }
        }

        int startOf(int frame) {
            return frame >= 0 && frame < total ? starts[frame] : 0;
        }

        int sizeOf(int frame) {
            return frame >= 0 && frame < total ? sizes[frame] : 0;
        }

        /** The duration of a frame, or 0 where it has none. */
        int durationAt(int frame, int index) {
            return index >= 0 && index < sizeOf(frame) ? train.at(startOf(frame) + index) : 0;
        }

        /** The space before a frame, or 0 before the first one. */
        int spaceBefore(int frame) {
            return train.at(startOf(frame) - 1);
        }
    }

    /** Decodes a frame; the fields tell to what, until the next one is decoded. */
    private static final class Decoder {
        private int protocol = NONE;
        private int code = NONE;
        private final int[] durations = new int[MAX_FRAME];
        private int size;
        private int tolerance;
        /** For each number of phase bits that are read, the places from which the rest can be read. */
        private final long[] open = new long[MAX_BITS + 1];

        boolean isDecoded() {
            return protocol != NONE;
        }

        boolean isCode() {
            return code != NONE;
        }

        void decode(Table table, FrameList frames, int frame, int newTolerance) {
            tolerance = newTolerance;
            protocol = NONE;
            code = NONE;
            if (!take(frames, frame)) {
                return;
            }
            for (int i = 0; i < table.protocolCount; i++) {
                Protocol tried = table.protocolAt(i);
                code = tried.kind == PHASE ? phaseCode(tried) : plainCode(tried);
                if (code != NONE) {
                    protocol = i;
                    return;
                }
            }
            protocol = protocolOfShortFrame(table);
        }

        /** Takes a frame's durations; false if they are more than any code has. */
        private boolean take(FrameList frames, int frame) {
            size = frames.sizeOf(frame);
            if (size > MAX_FRAME) {
                return false;
            }
            for (int i = 0; i < size; i++) {
                durations[i] = frames.durationAt(frame, i);
            }
            return true;
        }

        private int protocolOfShortFrame(Table table) {
            for (int i = 0; i < table.protocolCount; i++) {
                Protocol tried = table.protocolAt(i);
                if (tried.repetition == SHORT && size == 3 && fits(0, tried.headerMark)
                        && fits(1, tried.headerSpace / 2) && fits(2, tried.a)) {
                    return i;
                }
            }
            return NONE;
        }

        private boolean fits(int index, int length) {
            return index >= 0 && index < size && index < MAX_FRAME
                    && matches(durations[index], length, tolerance);
        }

        /** The code by distance or width: every second duration is a bit, the others are A. */
        private int plainCode(Protocol tried) {
            int others = tried.kind == WIDTH ? 1 : 3;
            if (size != 2 * tried.bits + others
                    || !fits(0, tried.headerMark) || !fits(1, tried.headerSpace)) {
                return NONE;
            }
            int bitParity = tried.kind == WIDTH ? 0 : 1;
            int read = 0;
            for (int i = 2; i < size; i++) {
                if (i % 2 != bitParity) {
                    if (!fits(i, tried.a)) {
                        return NONE;
                    }
                } else if (!fits(i, tried.b)) {
                    // 1 only where 0 does not fit: the smallest code counts
                    if (!fits(i, tried.c)) {
                        return NONE;
                    }
                    read |= tried.maskAt((i - 2) / 2);
                }
            }
            return read;
        }

        /**
         * The code by phase. While it is read, a place is the index of the duration that the last bit
         * left unfinished with the length A: a mark (even) after 0, a space (odd) after 1. The same bit
         * again ends this duration and fills the next one; the other bit doubles this duration. Bits of
         * a long stand for places, since a phase frame has at most 33 durations.
         */
        private int phaseCode(Protocol tried) {
            if (size < 3 || size > 2 * tried.bits + 1 || !fits(0, tried.headerMark)) {
                return NONE;
            }
            long singles = placesOf(tried.a);
            long doubles = placesOf(2 * tried.a);
            long pairs = singles & (singles >>> 1);
            // at the end a mark is left that must fit, or a space that is not sent
            long rest = (singles & (1L << (size - 1))) | (1L << size);
            for (int read = Math.min(tried.bits, MAX_BITS); read >= 1; read--) {
                open[read] = rest;
                rest = ((rest >>> 1) & doubles) | ((rest >>> 2) & pairs);
            }
            if (fits(1, tried.headerSpace + tried.a) && isIn(open[1], 2)) {
                return restOfPhaseCode(tried, 2, pairs, doubles);
            }
            if (fits(1, tried.headerSpace) && isIn(singles, 2) && isIn(open[1], 3)) {
                return tried.maskAt(0) | restOfPhaseCode(tried, 3, pairs, doubles);
            }
            return NONE;
        }

        /** The bits behind the first one: 0 wherever the rest can be read after it. */
        private int restOfPhaseCode(Protocol tried, int firstPlace, long pairs, long doubles) {
            int place = firstPlace;
            int read = 0;
            for (int k = 1; k < tried.bits && k < MAX_BITS; k++) {
                boolean afterZero = place % 2 == 0;
                int step = afterZero ? 2 : 1;
                if (!isIn(afterZero ? pairs : doubles, place) || !isIn(open[k + 1], place + step)) {
                    read |= tried.maskAt(k);
                    step = 3 - step;
                }
                place += step;
            }
            return read;
        }

        /** The places from 2 on whose durations match a length. */
        private long placesOf(int length) {
            long places = 0;
            for (int i = 2; i < size; i++) {
                if (fits(i, length)) {
                    places |= 1L << i;
                }
            }
            return places;
        }

        private static boolean isIn(long places, int place) {
            return ((places >>> place) & 1) != 0;
        }
    }

    /** The presses of a train, and its strays. */
    private static final class PressList {
        private final int[] protocols = new int[MAX_PRESSES];
        private final int[] codes = new int[MAX_PRESSES];
        private final int[] counts = new int[MAX_PRESSES];
        private int listed;
        private int strays;
        private boolean latestIsListed;
        private int latestProtocol;
        private int latestCode;

        void find(State state, int slot, FrameList frames, Decoder decoder) {
            frames.split(state.trainAt(slot), state.gap);
            listed = 0;
            strays = 0;
            boolean inPress = false;
            for (int frame = 0; frame < frames.total; frame++) {
                decoder.decode(state.table, frames, frame, state.tolerance);
                boolean isNear = frames.spaceBefore(frame) <= state.hold;
                if (inPress && isNear && continuesLatest(decoder, state.table)) {
                    countLatest();
                } else if (decoder.isCode()) {
                    begin(decoder);
                    inPress = true;
                } else {
                    strays++;
                    inPress = false;
                }
            }
        }

        private boolean continuesLatest(Decoder decoder, Table table) {
            if (!decoder.isDecoded() || decoder.protocol != latestProtocol) {
                return false;
            }
            if (!decoder.isCode()) {
                return true;
            }
            return decoder.code == latestCode && table.protocolAt(latestProtocol).repetition != SHORT;
        }

        private void countLatest() {
            if (latestIsListed && listed > 0 && listed <= MAX_PRESSES) {
                counts[listed - 1]++;
            }
        }

        private void begin(Decoder decoder) {
            latestProtocol = decoder.protocol;
            latestCode = decoder.code;
            latestIsListed = listed < MAX_PRESSES;
            if (latestIsListed) {
                protocols[listed] = latestProtocol;
                codes[listed] = latestCode;
                counts[listed] = 1;
                listed++;
            }
        }
    }

    /** Durations in ascending order, and the clusters into which they fall. */
    private static final class Clusters {
        private final int[] sorted = new int[MAX_TRAIN];
        private int size;
        private int clusterCount;
        private int firstMean;
        private int secondMean;

        void makeEmpty() {
            size = 0;
        }

        void insert(int duration) {
            if (size >= MAX_TRAIN) {
                return;
            }
            int place = size;
            while (place > 0 && sorted[place - 1] > duration) {
                sorted[place] = sorted[place - 1];
                place--;
            }
            sorted[place] = duration;
            size++;
        }

        void cut() {
            clusterCount = 0;
            int start = 0;
            for (int i = 1; i <= size && i <= MAX_TRAIN; i++) {
                if (i == size || 2 * sorted[i] > 3 * sorted[i - 1]) {
                    noteCluster(mean(start, i));
                    start = i;
                }
            }
        }

        private void noteCluster(int mean) {
            if (clusterCount == 0) {
                firstMean = mean;
            } else if (clusterCount == 1) {
                secondMean = mean;
            }
            clusterCount++;
        }

        private int mean(int start, int end) {
            int sum = 0;
            for (int i = Math.max(start, 0); i < end && i < MAX_TRAIN; i++) {
                sum += sorted[i];
            }
            return end > start ? sum / (end - start) : 0;
        }
    }

    /** Learns a protocol from frames of one size. */
    private static final class Learner {
        private final Clusters marks = new Clusters();
        private final Clusters spaces = new Clusters();
        private int size;
        private int headerMark;
        private int headerSpace;
        private int kind;
        private int bits;
        private int a;
        private int b;
        private int c;

        /** Clusters the frames that are as long as frame 0; false if that has less than 5 durations. */
        boolean gather(FrameList frames) {
            size = frames.sizeOf(0);
            if (size < LEAST_TO_LEARN) {
                return false;
            }
            marks.makeEmpty();
            spaces.makeEmpty();
            int taken = 0;
            int markSum = 0;
            int spaceSum = 0;
            for (int frame = 0; frame < frames.total; frame++) {
                if (frames.sizeOf(frame) == size) {
                    taken++;
                    markSum += frames.durationAt(frame, 0);
                    spaceSum += frames.durationAt(frame, 1);
                    insertAll(frames, frame);
                }
            }
            if (taken == 0) {
                return false;
            }
            headerMark = markSum / taken;
            headerSpace = spaceSum / taken;
            marks.cut();
            spaces.cut();
            return true;
        }

        private void insertAll(FrameList frames, int frame) {
            for (int i = 2; i < size; i++) {
                (i % 2 == 0 ? marks : spaces).insert(frames.durationAt(frame, i));
            }
        }

        /** Makes a protocol of what was gathered; false if none comes of it. */
        boolean conclude() {
            if (marks.clusterCount == 1 && spaces.clusterCount == 2) {
                return makeProtocol(DISTANCE, (size - 3) / 2, marks, spaces);
            }
            if (marks.clusterCount == 2 && spaces.clusterCount == 1) {
                return makeProtocol(WIDTH, (size - 1) / 2, spaces, marks);
            }
            return false;
        }

        private boolean makeProtocol(int newKind, int newBits, Clusters fixed, Clusters coding) {
            kind = newKind;
            bits = newBits;
            a = fixed.firstMean;
            b = coding.firstMean;
            c = coding.secondMean;
            return bits <= MAX_BITS && lengthsPossible(kind, headerMark, headerSpace, a, b, c);
        }
    }

    /** A train laid over another one, duration by duration. */
    private static final class Collision {
        private final Train first = new Train();
        private final Train second = new Train();
        /** The next mark of each train, and its moment. */
        private int firstIndex;
        private int firstMoment;
        private int secondIndex;
        private int secondMoment;
        /** The earliest mark that has not gone into the result. */
        private boolean hasMark;
        private int start;
        private int end;
        /** The space of the result that comes next, 0 if a mark does. */
        private int space;

        void lay(Train under, Train over) {
            first.copyFrom(under);
            second.copyFrom(over);
        }

        /** Begins the result with another offset; after it, nextDuration() tells it. */
        void begin(int offset) {
            firstIndex = 0;
            firstMoment = 0;
            secondIndex = 0;
            secondMoment = offset;
            space = 0;
            takeMark();
        }

        private void takeMark() {
            boolean firstHas = firstIndex < first.size;
            boolean secondHas = secondIndex < second.size;
            hasMark = firstHas || secondHas;
            if (firstHas && (!secondHas || firstMoment <= secondMoment)) {
                start = firstMoment;
                end = start + first.at(firstIndex);
                firstMoment = end + first.at(firstIndex + 1);
                firstIndex += 2;
            } else if (secondHas) {
                start = secondMoment;
                end = start + second.at(secondIndex);
                secondMoment = end + second.at(secondIndex + 1);
                secondIndex += 2;
            }
        }

        /** The next duration of the result, or 0 behind its end. */
        int nextDuration() {
            if (space > 0) {
                int passed = space;
                space = 0;
                return passed;
            }
            if (!hasMark) {
                return 0;
            }
            int from = start;
            int to = end;
            takeMark();
            // all marks that begin before this one ends, or just then, become one with it
            for (int i = 0; i < MAX_TRAIN && hasMark && start <= to; i++) {
                to = Math.max(to, end);
                takeMark();
            }
            space = hasMark ? start - to : 0;
            return to - from;
        }

        /** Writes the whole result; false if it has more durations than a train. */
        boolean writeTo(Train out) {
            out.size = 0;
            int duration = nextDuration();
            for (int i = 0; i < MAX_TRAIN && duration > 0; i++) {
                out.put(duration);
                duration = nextDuration();
            }
            return duration == 0;
        }
    }

    /** The text; after it was read with an error, tokenStart is the error position. */
    private static final class Text {
        private static final int END = 0;
        private static final int WORD = 1;
        private static final int NUMBER = 2;
        private static final int SEMICOLON = 3;
        private static final int OTHER = 4;

        private final char[] characters = new char[MAX_TEXT];
        private int size;
        private int tokenKind;
        private int tokenStart;
        private int tokenEnd;

        void put(char character) {
            if (size >= 0 && size < MAX_TEXT) {
                characters[size] = character;
                size++;
            }
        }

        /** The character, or a space where there is none. */
        private char at(int index) {
            return index >= 0 && index < size && index < MAX_TEXT ? characters[index] : ' ';
        }

        /** Reads protocols and buttons into a table: the number of items, or NONE after an error. */
        int readTable(Table table) {
            tokenEnd = 0;
            table.makeEmpty();
            for (int items = 0; items <= MAX_TEXT; items++) {
                takeToken();
                if (tokenKind == END) {
                    return items;
                }
                if (!readItem(table)) {
                    return NONE;
                }
            }
            return NONE;
        }

        private boolean readItem(Table table) {
            if (isWord("proto")) {
                return !table.protocolsFull() && readProtocol(table);
            }
            if (isWord("button")) {
                return !table.buttonsFull() && readButton(table);
            }
            return false;
        }

        private boolean readProtocol(Table table) {
            int kind = readNumber(DISTANCE, PHASE);
            int h = kind == NONE ? NONE : readNumber(MIN_LENGTH, MAX_LENGTH);
            int s = h == NONE ? NONE : readNumber(MIN_LENGTH, MAX_LENGTH);
            int a = s == NONE ? NONE : readNumber(MIN_LENGTH, MAX_LENGTH);
            int low = kind == PHASE ? 0 : MIN_LENGTH;
            int high = kind == PHASE ? 0 : MAX_LENGTH;
            int b = a == NONE ? NONE : readNumber(low, high);
            int c = b == NONE ? NONE : readNumber(low, high);
            if (c == NONE || !lengthsPossible(kind, h, s, a, b, c)) {
                return false;
            }
            int bits = readNumber(1, MAX_BITS);
            int order = bits == NONE ? NONE : readNumber(0, LOWEST_FIRST);
            int repetition = order == NONE ? NONE : readNumber(WHOLE, TOGGLED);
            if (repetition == NONE || !readEnd()) {
                return false;
            }
            int number = table.newProtocol(kind, bits, order, repetition);
            table.protocolAt(number).useLengths(h, s, a, b, c);
            return true;
        }

        private boolean readButton(Table table) {
            int number = readNumber(0, table.protocolCount - 1);
            if (number == NONE) {
                return false;
            }
            Protocol protocol = table.protocolAt(number);
            int code = readNumber(0, (1 << protocol.bits) - 1);
            if (code == NONE) {
                return false;
            }
            int identity = protocol.identityOf(code);
            if (table.findButton(number, identity) != NONE || !readEnd()) {
                return false;
            }
            table.newButton(number, identity);
            return true;
        }

        private boolean readEnd() {
            takeToken();
            return tokenKind == SEMICOLON;
        }

        /** The next token's number, or NONE if it is none from low to high. */
        private int readNumber(int low, int high) {
            takeToken();
            int digits = tokenEnd - tokenStart;
            if (tokenKind != NUMBER || digits > MAX_DIGITS || digits > 1 && at(tokenStart) == '0') {
                return NONE;
            }
            int value = 0;
            for (int i = tokenStart; i < tokenEnd; i++) {
                value = 10 * value + (at(i) - '0');
            }
            return inRange(value, low, high) ? value : NONE;
        }

        private boolean isWord(String word) {
            if (tokenKind != WORD || tokenEnd - tokenStart != word.length()) {
                return false;
            }
            for (int i = 0; i < word.length(); i++) {
                if (at(tokenStart + i) != word.charAt(i)) {
                    return false;
                }
            }
            return true;
        }

        private void takeToken() {
            tokenStart = tokenEnd;
            while (tokenStart < size && at(tokenStart) == ' ') {
                tokenStart++;
            }
            tokenKind = kindAt(tokenStart);
            tokenEnd = tokenKind == END ? tokenStart : tokenStart + 1;
            if (tokenKind == WORD || tokenKind == NUMBER) {
                while (tokenEnd < size && kindAt(tokenEnd) == tokenKind) {
                    tokenEnd++;
                }
            }
        }

        private int kindAt(int index) {
            if (index < 0 || index >= size || index >= MAX_TEXT) {
                return END;
            }
            char sign = characters[index];
            if (sign >= 'a' && sign <= 'z') {
                return WORD;
            }
            if (sign >= '0' && sign <= '9') {
                return NUMBER;
            }
            return sign == ';' ? SEMICOLON : OTHER;
        }
    }
}
