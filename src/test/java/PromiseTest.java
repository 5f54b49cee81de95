/**
 * The document's promises 1 to 33, a method each: ordinary arguments, the edges that the document names,
 * and wrong arguments. (RandomRunsTest and RandomTextsTest try the same promises at random.)
 */
public final class PromiseTest {
    private static final int INVALID = PulseRemote.INVALID_ARGUMENT;
    private static final int STATE = PulseRemote.ILLEGAL_STATE;
    private static final int CAPACITY = PulseRemote.CAPACITY_EXCEEDED;
    private static final int NONE = PulseRemote.NONE;
    private static final int DISTANCE = 0;
    private static final int WIDTH = 1;
    private static final int PHASE = 2;
    private static final int WHOLE = 0;
    private static final int SHORT = 1;
    private static final int TOGGLED = 2;

    private static int checks = 0;
    private static int wrong = 0;
    private static String promise = "";

    private PromiseTest() { }

    public static void main(String[] args) {
        promise01NewObject();
        promise02AddProtocol();
        promise03SetLengths();
        promise04Protocol();
        promise05Count();
        promise06Learn();
        promise07Clusters();
        promise08AddButton();
        promise09Button();
        promise10SetGap();
        promise11SetHold();
        promise12SetTolerance();
        promise13AppendCharacter();
        promise14ClearText();
        promise15LoadRightTexts();
        promise15LoadWrongTexts();
        promise16Append();
        promise17SendDistanceAndWidth();
        promise17SendPhase();
        promise17SendErrors();
        promise18SendShort();
        promise19Clear();
        promise20Overlay();
        promise20OverlayErrors();
        promise21Distort();
        promise22Duration();
        promise23Length();
        promise24FrameCount();
        promise25Frame();
        promise25FrameSmallestCode();
        promise25FramePhase();
        promise25FrameTolerance();
        promise26Deviation();
        promise27PressCount();
        promise28Press();
        promise28PressHold();
        promise28PressButton();
        promise29StrayCount();
        promise30NeededTolerance();
        promise31Explain();
        promise32Ghosts();
        promise33Undo();
        promise33UndoBringsAllBack();
        System.out.println(wrong == 0 ? checks + " answers are as due" : wrong + " answers are not as due");
        if (wrong != 0) {
            System.exit(1);
        }
    }

    private static void due(String call, int got, int due) {
        checks++;
        if (got != due) {
            wrong++;
            System.out.println(promise + ": " + call + " answered " + got + ", due is " + due);
        }
    }

    private static void dueTrain(PulseRemote x, int slot, int... durations) {
        due("length", x.length(slot), durations.length);
        for (int i = 0; i < durations.length; i++) {
            due("duration " + i, x.duration(slot, i), durations[i]);
        }
    }

    private static void put(PulseRemote x, int slot, int... durations) {
        x.clear(slot);
        for (int duration : durations) {
            due("append " + duration, x.append(slot, duration) > 0 ? 1 : 0, 1);
        }
    }

    private static void write(PulseRemote x, String text) {
        for (char character : text.toCharArray()) {
            x.appendCharacter(character);
        }
    }

    private static int loaded(PulseRemote x, String text) {
        x.clearText();
        write(x, text);
        return x.load();
    }

    /** An object with one protocol: H 900, S 450, A 100, and B 100 and C 300 but for phase. */
    private static PulseRemote withProtocol(int kind, int bits, int order, int repetition) {
        PulseRemote x = new PulseRemote();
        add(x, kind, bits, order, repetition);
        return x;
    }

    private static int add(PulseRemote x, int kind, int bits, int order, int repetition) {
        int number = x.addProtocol(kind, bits, order, repetition);
        x.setLengths(number, 900, 450, 100, kind == PHASE ? 0 : 100, kind == PHASE ? 0 : 300);
        return number;
    }

    private static void promise01NewObject() {
        promise = "promise 1";
        PulseRemote x = new PulseRemote();
        for (int what = 0; what < 4; what++) {
            due("count " + what, x.count(what), 0);
        }
        for (int slot = 0; slot < 3; slot++) {
            due("length", x.length(slot), 0);
            due("frameCount", x.frameCount(slot), 0);
        }
        due("protocol", x.protocol(0, 0), INVALID);
        due("button", x.button(0, 0), INVALID);
        due("undo", x.undo(), STATE);
        due("first gap", x.setGap(1000), 10000);
        due("first hold", x.setHold(1000), 40000);
        due("first tolerance", x.setTolerance(0), 20);
        due("another object is another one", new PulseRemote().count(3), 0);
        due("INVALID_ARGUMENT", PulseRemote.INVALID_ARGUMENT, -1);
        due("ILLEGAL_STATE", PulseRemote.ILLEGAL_STATE, -2);
        due("CAPACITY_EXCEEDED", PulseRemote.CAPACITY_EXCEEDED, -3);
        due("NONE", PulseRemote.NONE, -9);
    }

    private static void promise02AddProtocol() {
        promise = "promise 2";
        PulseRemote x = new PulseRemote();
        int[][] wrongArguments = {{-1, 1, 0, 0}, {3, 1, 0, 0}, {0, 0, 0, 0}, {0, 17, 0, 0}, {0, 1, -1, 0},
            {0, 1, 2, 0}, {0, 1, 0, -1}, {0, 1, 0, 3}};
        for (int[] a : wrongArguments) {
            due("wrong argument", x.addProtocol(a[0], a[1], a[2], a[3]), INVALID);
        }
        due("nothing was added", x.count(0), 0);
        due("nothing was saved", x.count(3), 0);
        due("distance", x.addProtocol(DISTANCE, 1, 0, WHOLE), 0);
        due("width", x.addProtocol(WIDTH, 16, 1, SHORT), 1);
        due("phase", x.addProtocol(PHASE, 8, 1, TOGGLED), 2);
        int[][] properties = {{0, 9000, 4500, 560, 560, 1690, 1, 0, 0}, {1, 9000, 4500, 560, 560, 1690, 16, 1, 1},
            {2, 9000, 4500, 560, 0, 0, 8, 1, 2}};
        for (int number = 0; number < 3; number++) {
            for (int what = 0; what < 9; what++) {
                due("property " + what, x.protocol(number, what), properties[number][what]);
            }
        }
        for (int number = 3; number < 6; number++) {
            due("another one", x.addProtocol(DISTANCE, 1, 0, WHOLE), number);
        }
        due("a seventh one", x.addProtocol(DISTANCE, 1, 0, WHOLE), CAPACITY);
        due("a wrong one before a seventh one", x.addProtocol(DISTANCE, 17, 0, WHOLE), INVALID);
        due("six stay", x.count(0), 6);
    }

    private static void promise03SetLengths() {
        promise = "promise 3";
        PulseRemote x = new PulseRemote();
        due("no protocol", x.setLengths(0, 50, 50, 50, 50, 51), INVALID);
        x.addProtocol(DISTANCE, 1, 0, WHOLE);
        x.addProtocol(PHASE, 1, 0, WHOLE);
        x.addProtocol(WIDTH, 1, 0, WHOLE);
        due("the least ones", x.setLengths(0, 50, 50, 50, 50, 51), 560);
        due("the greatest ones", x.setLengths(0, 20000, 20000, 20000, 20000, 50), 50);
        due("width", x.setLengths(2, 100, 200, 300, 400, 500), 560);
        due("phase", x.setLengths(1, 100, 200, 300, 0, 0), 560);
        int[] given = {20000, 20000, 20000, 20000, 50};
        int saved = x.count(3);
        for (int i = 0; i < 5; i++) {
            for (int bad : new int[] {49, 20001, 0, -1, Integer.MAX_VALUE, Integer.MIN_VALUE}) {
                int[] l = given.clone();
                l[i] = bad;
                due("a bad length", x.setLengths(0, l[0], l[1], l[2], l[3], l[4]), INVALID);
            }
        }
        due("B equal to C", x.setLengths(0, 100, 100, 100, 200, 200), INVALID);
        due("B and C equal for width", x.setLengths(2, 100, 100, 100, 200, 200), INVALID);
        due("zeros for distance", x.setLengths(0, 100, 100, 100, 0, 0), INVALID);
        due("B for phase", x.setLengths(1, 100, 100, 100, 50, 0), INVALID);
        due("C for phase", x.setLengths(1, 100, 100, 100, 0, 60), INVALID);
        due("B and C for phase", x.setLengths(1, 100, 100, 100, 50, 60), INVALID);
        due("protocol -1", x.setLengths(-1, 100, 200, 300, 400, 500), INVALID);
        due("protocol 3", x.setLengths(3, 100, 200, 300, 400, 500), INVALID);
        due("errors save nothing", x.count(3), saved);
        for (int i = 0; i < 5; i++) {
            due("errors change nothing", x.protocol(0, 1 + i), given[i]);
            due("width has its lengths", x.protocol(2, 1 + i), 100 * (i + 1));
            due("phase has its lengths", x.protocol(1, 1 + i), new int[] {100, 200, 300, 0, 0}[i]);
        }
        due("the previous A", x.setLengths(1, 100, 200, 350, 0, 0), 300);
        due("the bits stay", x.protocol(1, 6), 1);
    }

    private static void promise04Protocol() {
        promise = "promise 4";
        PulseRemote x = new PulseRemote();
        due("no protocol", x.protocol(0, 0), INVALID);
        x.addProtocol(WIDTH, 7, 1, TOGGLED);
        x.setLengths(0, 101, 102, 103, 104, 105);
        int[] properties = {1, 101, 102, 103, 104, 105, 7, 1, 2};
        for (int what = 0; what < 9; what++) {
            due("property " + what, x.protocol(0, what), properties[what]);
        }
        due("what -1", x.protocol(0, -1), INVALID);
        due("what 9", x.protocol(0, 9), INVALID);
        due("protocol 1", x.protocol(1, 0), INVALID);
        due("protocol -1", x.protocol(-1, 0), INVALID);
    }

    private static void promise05Count() {
        promise = "promise 5";
        PulseRemote x = withProtocol(DISTANCE, 4, 0, WHOLE);
        x.addProtocol(WIDTH, 1, 0, WHOLE);
        x.addButton(0, 3);
        write(x, "abcde");
        int[] counts = {2, 1, 5, 4};
        for (int what = 0; what < 4; what++) {
            due("count " + what, x.count(what), counts[what]);
        }
        due("what -1", x.count(-1), INVALID);
        due("what 4", x.count(4), INVALID);
        for (int i = 0; i < 3; i++) {
            x.setGap(2000);
        }
        due("at most 6 states", x.count(3), 6);
    }

    private static void promise06Learn() {
        promise = "promise 6";
        PulseRemote x = new PulseRemote();
        due("an empty train", x.learn(0), STATE);
        // header 1000 and 2000 on the average; A 100, 101, 102; B 200, 201; C 302 (more than 3/2 of 201)
        put(x, 0, 1001, 2003, 100, 200, 101, 302, 102, 10001, 1000, 1998, 100, 302, 101, 201, 102);
        due("distance", x.learn(0), 0);
        int[] distance = {DISTANCE, 1000, 2000, 101, 200, 302, 2, 0, WHOLE};
        for (int what = 0; what < 9; what++) {
            due("distance " + what, x.protocol(0, what), distance[what]);
        }
        put(x, 1, 1000, 500, 300, 100, 151, 103, 100);
        due("three clusters of marks", x.learn(1), STATE);
        put(x, 1, 1000, 500, 300, 100, 150, 104, 150);
        due("width", x.learn(1), 1);
        int[] width = {WIDTH, 1000, 500, 102, 150, 300, 3, 0, WHOLE};
        for (int what = 0; what < 9; what++) {
            due("width " + what, x.protocol(1, what), width[what]);
        }
        put(x, 2, 1000, 500, 100, 100, 100, 100, 100);
        due("one cluster each", x.learn(2), STATE);
        put(x, 2, 1000, 500, 100, 100, 200);
        due("5 durations", x.learn(2), 2);
        due("2 bits", x.protocol(2, 6), 2);
        put(x, 2, 1000, 500, 100);
        due("3 durations", x.learn(2), STATE);
        learnFromOtherFrames(x);
        learnErrors(x);
    }

    private static void learnFromOtherFrames(PulseRemote x) {
        put(x, 2, 1000, 500, 100, 60, 200, 20000, 40000, 40000, 900, 20000, 3000, 600, 100, 60, 200, 7);
        due("frames of another size do not count", x.learn(2), 3);
        due("H", x.protocol(3, 1), 2000);
        due("S", x.protocol(3, 2), 550);
        due("A", x.protocol(3, 3), 60);
        due("B", x.protocol(3, 4), 100);
        due("C", x.protocol(3, 5), 200);
    }

    private static void learnErrors(PulseRemote x) {
        due("slot -1", x.learn(-1), INVALID);
        due("slot 3", x.learn(3), INVALID);
        int[][] tooShortOrLong = {{49, 500, 100, 100, 200}, {1000, 49, 100, 100, 200}, {1000, 500, 49, 100, 100},
            {1000, 500, 100, 49, 200}, {20001, 500, 100, 100, 200}, {1000, 500, 100, 100, 20001}};
        x.setGap(60000);
        for (int[] train : tooShortOrLong) {
            put(x, 2, train);
            due("a length out of its range", x.learn(2), STATE);
        }
        put(x, 2, 20000, 50, 50, 20000, 20000);
        due("lengths at the ends of their ranges", x.learn(2), 4);
        due("code of 16 bits by distance", sentAndLearned(x, DISTANCE), 5);
        due("its bits", x.protocol(5, 6), 16);
        put(x, 2, 1000, 500, 100, 100, 200);
        due("no room", x.learn(2), CAPACITY);
        put(x, 2, 1000, 500, 100);
        due("nothing is learned, before no room", x.learn(2), STATE);
        x = new PulseRemote();
        due("code of 16 bits by width", sentAndLearned(x, WIDTH), 1);
        due("its bits", x.protocol(1, 6), 16);
        x.append(0, 100);
        x.append(0, 300);
        due("17 bits by width", x.learn(0), STATE);
        x = new PulseRemote();
        sentAndLearned(x, DISTANCE);
        x.append(0, 300);
        x.append(0, 100);
        due("17 bits by distance", x.learn(0), STATE);
        due("two clusters all the same", x.clusters(0, 1), 2);
    }

    private static int sentAndLearned(PulseRemote x, int kind) {
        if (x.count(0) == 0) {
            add(x, kind, 16, 0, WHOLE);
            x.send(0, 0, 0x0f31, 1);
        } else {
            x.clear(0);
            int[] frame = {1000, 500};
            put(x, 0, frame);
            for (int i = 0; i < 16; i++) {
                x.append(0, 100);
                x.append(0, i % 3 == 0 ? 100 : 300);
            }
            x.append(0, 100);
        }
        return x.learn(0);
    }

    private static void promise07Clusters() {
        promise = "promise 7";
        PulseRemote x = new PulseRemote();
        due("an empty train", x.clusters(0, 0), STATE);
        due("an empty train, a wrong what", x.clusters(0, 2), INVALID);
        put(x, 0, 900, 400, 100);
        due("3 durations", x.clusters(0, 0), STATE);
        put(x, 0, 900, 400, 100, 70, 150);
        due("y is 3/2 of x", x.clusters(0, 0), 1);
        due("one space", x.clusters(0, 1), 1);
        put(x, 0, 900, 400, 100, 70, 151);
        due("y is more than 3/2 of x", x.clusters(0, 0), 2);
        put(x, 0, 9000, 4000, 300, 20, 100, 31, 10, 47, 200, 48, 140);
        due("marks 10, 100 140 200 300", x.clusters(0, 0), 2);
        due("spaces 20, 31, 47 48", x.clusters(0, 1), 3);
        x.setGap(1000);
        due("frame 0 has one duration then", x.clusters(0, 0), STATE);
        due("what -1", x.clusters(0, -1), INVALID);
        due("what 2", x.clusters(0, 2), INVALID);
        due("slot -1", x.clusters(-1, 0), INVALID);
        due("slot 3", x.clusters(3, 0), INVALID);
        put(x, 1, 100, 200, 100, 200, 100, 1001, 100, 200, 700, 200, 700, 1001, 5, 5, 5);
        due("two frames count", x.clusters(1, 0), 2);
        due("and their spaces", x.clusters(1, 1), 1);
    }

    private static void promise08AddButton() {
        promise = "promise 8";
        PulseRemote x = new PulseRemote();
        due("no protocol", x.addButton(0, 0), INVALID);
        x.addProtocol(DISTANCE, 4, 0, WHOLE);
        x.addProtocol(DISTANCE, 3, 0, TOGGLED);
        x.addProtocol(WIDTH, 3, 1, TOGGLED);
        x.addProtocol(WIDTH, 16, 1, SHORT);
        due("the greatest code", x.addButton(0, 15), 0);
        due("one more", x.addButton(0, 16), INVALID);
        due("code -1", x.addButton(0, -1), INVALID);
        due("the same", x.addButton(0, 15), STATE);
        due("toggled, highest first", x.addButton(1, 7), 1);
        due("the same identity", x.addButton(1, 3), STATE);
        due("another identity", x.addButton(1, 2), 2);
        due("toggled, lowest first", x.addButton(2, 7), 3);
        due("the same identity", x.addButton(2, 6), STATE);
        due("another identity", x.addButton(2, 3), 4);
        due("16 bits", x.addButton(3, 65535), 5);
        due("17 bits", x.addButton(3, 65536), INVALID);
        due("protocol 4", x.addButton(4, 0), INVALID);
        due("protocol -1", x.addButton(-1, 0), INVALID);
        for (int i = 6; i < 12; i++) {
            due("one more", x.addButton(0, i), i);
        }
        due("a thirteenth one", x.addButton(0, 0), CAPACITY);
        due("a wrong one", x.addButton(0, 16), INVALID);
        due("an equal one", x.addButton(0, 15), STATE);
        due("12 stay", x.count(1), 12);
    }

    private static void promise09Button() {
        promise = "promise 9";
        PulseRemote x = new PulseRemote();
        due("no button", x.button(0, 0), INVALID);
        x.addProtocol(DISTANCE, 4, 0, WHOLE);
        x.addProtocol(DISTANCE, 3, 0, TOGGLED);
        x.addProtocol(PHASE, 3, 1, TOGGLED);
        x.addButton(0, 9);
        x.addButton(1, 7);
        x.addButton(2, 7);
        int[] identities = {9, 3, 6};
        for (int i = 0; i < 3; i++) {
            due("its protocol", x.button(i, 0), i);
            due("its identity", x.button(i, 1), identities[i]);
        }
        due("button -1", x.button(-1, 0), INVALID);
        due("button 3", x.button(3, 0), INVALID);
        due("part -1", x.button(0, -1), INVALID);
        due("part 2", x.button(0, 2), INVALID);
    }

    private static void promise10SetGap() {
        promise = "promise 10";
        PulseRemote x = new PulseRemote();
        due("the least", x.setGap(1000), 10000);
        due("the greatest", x.setGap(60000), 1000);
        due("too small", x.setGap(999), INVALID);
        due("too great", x.setGap(60001), INVALID);
        due("errors save nothing", x.count(3), 2);
        due("errors change nothing", x.setGap(10000), 60000);
        put(x, 0, 5, 10000, 5, 10001, 5);
        due("only what is longer parts frames", x.frameCount(0), 2);
        x.setGap(9999);
        due("a smaller gap", x.frameCount(0), 3);
    }

    private static void promise11SetHold() {
        promise = "promise 11";
        PulseRemote x = withProtocol(DISTANCE, 4, 0, WHOLE);
        due("the least", x.setHold(1000), 40000);
        due("the greatest", x.setHold(60000), 1000);
        due("too small", x.setHold(999), INVALID);
        due("too great", x.setHold(60001), INVALID);
        due("errors change nothing", x.setHold(15000), 60000);
        x.send(0, 0, 5, 1);
        x.send(0, 0, 5, 15000);
        due("the space is the hold", x.pressCount(0), 1);
        x.setHold(14999);
        due("the space is longer", x.pressCount(0), 2);
    }

    private static void promise12SetTolerance() {
        promise = "promise 12";
        PulseRemote x = withProtocol(DISTANCE, 1, 0, WHOLE);
        due("the least", x.setTolerance(0), 20);
        due("the greatest", x.setTolerance(40), 0);
        due("too small", x.setTolerance(-1), INVALID);
        due("too great", x.setTolerance(41), INVALID);
        due("errors change nothing", x.setTolerance(40), 40);
        put(x, 0, 1260, 270, 60, 180, 140);
        due("all at the edge", x.frame(0, 0, 3), 1);
        x.setTolerance(39);
        due("all beyond it", x.frame(0, 0, 3), NONE);
    }

    private static void promise13AppendCharacter() {
        promise = "promise 13";
        PulseRemote x = new PulseRemote();
        due("the least", x.appendCharacter(0), 1);
        due("the greatest", x.appendCharacter(255), 2);
        due("too small", x.appendCharacter(-1), INVALID);
        due("too great", x.appendCharacter(256), INVALID);
        for (int i = 3; i <= 160; i++) {
            due("one more", x.appendCharacter(32), i);
        }
        due("no room", x.appendCharacter(32), CAPACITY);
        due("a wrong one before no room", x.appendCharacter(256), INVALID);
        due("160 stay", x.count(2), 160);
        due("no state is saved", x.count(3), 0);
    }

    private static void promise14ClearText() {
        promise = "promise 14";
        PulseRemote x = new PulseRemote();
        due("an empty text", x.clearText(), 0);
        write(x, "proto;");
        due("its length", x.clearText(), 6);
        due("it is empty", x.count(2), 0);
        due("no state is saved", x.count(3), 0);
        due("what follows is a new text", loaded(x, ""), 0);
    }

    private static void promise15LoadRightTexts() {
        promise = "promise 15";
        PulseRemote x = new PulseRemote();
        due("an empty text", x.load(), 0);
        due("a state is saved", x.count(3), 1);
        due("only spaces", loaded(x, "   "), 0);
        due("three items", loaded(x,
                "proto 0 900 450 100 100 300 4 0 1;proto2 50 20000 51 0 0 16 1 2 ;  button 1 65535;"), 3);
        due("the text becomes empty", x.count(2), 0);
        int[][] properties = {{0, 900, 450, 100, 100, 300, 4, 0, 1}, {2, 50, 20000, 51, 0, 0, 16, 1, 2}};
        for (int number = 0; number < 2; number++) {
            for (int what = 0; what < 9; what++) {
                due("property " + what, x.protocol(number, what), properties[number][what]);
            }
        }
        due("protocols", x.count(0), 2);
        due("buttons", x.count(1), 1);
        due("the protocol of the button", x.button(0, 0), 1);
        due("the identity of the button", x.button(0, 1), 65534);
        due("the present ones are gone then", loaded(x, "proto1 50 50 50 50 20000 1 0 0;button0 0;"), 2);
        due("one protocol", x.count(0), 1);
        due("its kind", x.protocol(0, 0), WIDTH);
        due("one button", x.count(1), 1);
        due("its identity", x.button(0, 1), 0);
        due("none at all", loaded(x, " "), 0);
        due("no protocol", x.count(0), 0);
        due("no button", x.count(1), 0);
        due("undo leaves the text as it is", x.undo(), 4);
        due("the text is empty", x.count(2), 0);
        due("the protocol is back", x.count(0), 1);
    }

    private static void dueError(String text, int position) {
        PulseRemote x = withProtocol(DISTANCE, 4, 0, WHOLE);
        due(text, loaded(x, text), -10 - position);
        due("the text is kept", x.count(2), text.length());
        due("the protocol stays", x.protocol(0, 1), 900);
        due("no state is saved", x.count(3), 2);
    }

    private static void promise15LoadWrongTexts() {
        String start = "proto 0 900 450 100 100 300 4 0 0;";
        String phase = "proto2 50 50 50 0 0 4 0 2;";
        dueError(";", 0);
        dueError(" ;", 1);
        dueError("7", 0);
        dueError("Proto", 0);
        dueError("prot", 0);
        dueError("protos", 0);
        dueError("protobutton", 0);
        dueError("button", 6);
        dueError("button ", 7);
        dueError("button 0", 7);
        dueError("button0", 6);
        dueError("proto", 5);
        dueError("proto;", 5);
        dueError("proto3", 5);
        dueError("proto proto", 6);
        dueError("proto 00 900", 6);
        dueError("proto 0 0900", 8);
        dueError("proto 0 900 450 100 100 300 4 0 0", 33);
        dueError("proto 0 900 450 100 100 300 4 0", 31);
        dueError("proto 0 900 450 100 100 300 4 0 0 0;", 34);
        dueError("proto 0 900 450 100 100 300 4 0;", 31);
        dueError("proto 0 49 450", 8);
        dueError("proto 0 20001 450", 8);
        dueError("proto 0 900 49 100", 12);
        dueError("proto 0 900 20001 100", 12);
        dueError("proto 0 900 450 49", 16);
        dueError("proto 0 900 450 20001", 16);
        dueError("proto 0 900 450 100 49 300", 20);
        dueError("proto 0 900 450 100 20001 300", 20);
        dueError("proto 0 900 450 100 100 49", 24);
        dueError("proto 0 900 450 100 100 20001", 24);
        dueError("proto 0 900 450 100 100 100 4 0 0;", 24);
        dueError("proto 0 900 450 100 0 300 4 0 0;", 20);
        dueError("proto 0 900 450 100 100 0 4 0 0;", 24);
        dueError("proto 2 900 450 100 100 0", 20);
        dueError("proto 2 900 450 100 0 100", 22);
        dueError("proto 1 900 450 100 100 300 0 0 0;", 28);
        dueError("proto 1 900 450 100 100 300 17 0 0;", 28);
        dueError("proto 1 900 450 100 100 300 16 2 0;", 31);
        dueError("proto 1 900 450 100 100 300 16 1 3;", 33);
        dueError("proto 0 900 450 100000 100 300", 16);
        dueError("proto 0 900 450 4294967396 100 300", 16);
        dueError("proto 0 900,450", 11);
        dueError("proto 0 900\n450", 11);
        dueError("proto 0 900 450 \u00ff100", 16);
        dueError("proto 0 900 -450", 12);
        dueError(start + "button 1 0;", 41);
        dueError(start + "button 0 16;", 43);
        dueError(start + "button 0 15", 45);
        dueError(start + "button 0 15 ;x", 47);
        dueError(start + "button 0 15;button 0 15;", 55);
        dueError(start + "button 0 15;button 0 15", 55);
        dueError(start + "button 0 ;", 43);
        dueError(start + ";", 34);
        dueError(phase + "button 0 2;button 0 10;", 46);
        StringBuilder full = new StringBuilder(phase.replace("0 2;", "0 0;"));
        for (int code = 0; code < 12; code++) {
            full.append("button0 ").append(code).append(';');
        }
        due("12 buttons", loaded(new PulseRemote(), full.toString()), 13);
        dueError(full + "button", full.length());
        dueError(full + "butto", full.length());
        due("six protocols", loaded(new PulseRemote(), phase.repeat(6)), 6);
        dueError(phase.repeat(6) + "prot", 6 * phase.length());
    }

    private static void promise16Append() {
        promise = "promise 16";
        PulseRemote x = new PulseRemote();
        due("the least", x.append(0, 1), 1);
        due("the greatest", x.append(0, 60000), 2);
        due("too small", x.append(0, 0), INVALID);
        due("too great", x.append(0, 60001), INVALID);
        due("slot -1", x.append(-1, 1), INVALID);
        due("slot 3", x.append(3, 1), INVALID);
        due("another slot", x.append(2, 7), 1);
        dueTrain(x, 0, 1, 60000);
        dueTrain(x, 1);
        dueTrain(x, 2, 7);
        for (int i = 3; i <= 200; i++) {
            due("one more", x.append(0, i), i);
        }
        due("no room", x.append(0, 5), CAPACITY);
        due("a wrong one before no room", x.append(0, 0), INVALID);
        due("the last one", x.duration(0, 199), 200);
    }

    private static void promise17SendDistanceAndWidth() {
        promise = "promise 17";
        PulseRemote x = withProtocol(DISTANCE, 3, 0, WHOLE);
        due("distance, highest first", x.send(0, 0, 6, 1), 9);
        dueTrain(x, 0, 900, 450, 100, 300, 100, 300, 100, 100, 100);
        x = withProtocol(DISTANCE, 3, 1, WHOLE);
        due("distance, lowest first", x.send(1, 0, 6, 60000), 9);
        dueTrain(x, 1, 900, 450, 100, 100, 100, 300, 100, 300, 100);
        x = withProtocol(WIDTH, 3, 0, WHOLE);
        x.setLengths(0, 900, 450, 200, 100, 300);
        due("width, highest first", x.send(0, 0, 6, 1), 7);
        dueTrain(x, 0, 900, 450, 300, 200, 300, 200, 100);
        due("a second frame", x.send(0, 0, 1, 777), 15);
        dueTrain(x, 0, 900, 450, 300, 200, 300, 200, 100, 777, 900, 450, 100, 200, 100, 200, 300);
        x = withProtocol(WIDTH, 1, 0, WHOLE);
        due("one bit by width", x.send(0, 0, 1, 1), 3);
        dueTrain(x, 0, 900, 450, 300);
        x = new PulseRemote();
        x.append(0, 5);
        x.addProtocol(DISTANCE, 1, 0, WHOLE);
        due("behind a mark of its own", x.send(0, 0, 1, 6), 7);
        dueTrain(x, 0, 5, 6, 9000, 4500, 560, 1690, 560);
    }

    private static void promise17SendPhase() {
        PulseRemote x = withProtocol(PHASE, 3, 0, WHOLE);
        due("phase 010", x.send(0, 0, 2, 1), 5);
        dueTrain(x, 0, 900, 550, 200, 200, 100);
        x = withProtocol(PHASE, 3, 1, WHOLE);
        due("phase 011, lowest first", x.send(0, 0, 6, 1), 5);
        dueTrain(x, 0, 900, 550, 200, 100, 100);
        x = withProtocol(PHASE, 3, 0, WHOLE);
        x.send(0, 0, 0, 1);
        dueTrain(x, 0, 900, 550, 100, 100, 100, 100, 100);
        x.send(1, 0, 7, 1);
        dueTrain(x, 1, 900, 450, 100, 100, 100, 100, 100);
        x.send(2, 0, 4, 1);
        dueTrain(x, 2, 900, 450, 100, 200, 100, 100, 100);
    }

    private static void promise17SendErrors() {
        PulseRemote x = withProtocol(DISTANCE, 16, 0, WHOLE);
        due("slot -1", x.send(-1, 0, 0, 1), INVALID);
        due("slot 3", x.send(3, 0, 0, 1), INVALID);
        due("protocol -1", x.send(0, -1, 0, 1), INVALID);
        due("protocol 1", x.send(0, 1, 0, 1), INVALID);
        due("code -1", x.send(0, 0, -1, 1), INVALID);
        due("17 bits", x.send(0, 0, 65536, 1), INVALID);
        due("space 0, though it is not needed", x.send(0, 0, 0, 0), INVALID);
        due("space 60001", x.send(0, 0, 0, 60001), INVALID);
        due("errors change nothing", x.length(0), 0);
        due("16 bits", x.send(0, 0, 65535, 1), 35);
        due("again", x.send(0, 0, 0, 60000), 71);
        x.append(0, 5);
        due("a space at the end", x.send(0, 0, 0, 1), STATE);
        due("a wrong one before that", x.send(0, 0, 65536, 1), INVALID);
        x.append(0, 5);
        due("a third one", x.send(0, 0, 0, 1), 109);
        due("a fourth one", x.send(0, 0, 0, 1), 145);
        due("a fifth one", x.send(0, 0, 0, 1), 181);
        due("a sixth one", x.send(0, 0, 0, 1), CAPACITY);
        due("nothing of it", x.length(0), 181);
        add(x, WIDTH, 9, 0, WHOLE);
        add(x, WIDTH, 8, 0, WHOLE);
        due("to 201", x.send(0, 1, 0, 1), CAPACITY);
        due("one more", x.send(0, 2, 0, 1), 199);
        x.append(0, 5);
        due("full, but with a space at the end", x.send(0, 2, 0, 1), STATE);
        x = new PulseRemote();
        add(x, WIDTH, 9, 0, WHOLE);
        for (int i = 1; i <= 181; i++) {
            x.append(0, 3);
        }
        due("to 201", x.send(0, 0, 0, 1), CAPACITY);
        add(x, PHASE, 9, 0, WHOLE);
        x.clear(0);
        for (int i = 1; i <= 183; i++) {
            x.append(0, 3);
        }
        due("from 183 to 200", x.send(0, 1, 0x1a, 1), 183 + 1 + 16 > 200 ? CAPACITY : x.length(0));
    }

    private static void promise18SendShort() {
        promise = "promise 18";
        PulseRemote x = withProtocol(DISTANCE, 3, 0, WHOLE);
        x.setLengths(0, 901, 451, 101, 102, 103);
        due("whatever the repetition", x.sendShort(0, 0, 1), 3);
        dueTrain(x, 0, 901, 225, 101);
        due("a second one", x.sendShort(0, 0, 60000), 7);
        dueTrain(x, 0, 901, 225, 101, 60000, 901, 225, 101);
        due("slot -1", x.sendShort(-1, 0, 1), INVALID);
        due("slot 3", x.sendShort(3, 0, 1), INVALID);
        due("protocol -1", x.sendShort(0, -1, 1), INVALID);
        due("protocol 1", x.sendShort(0, 1, 1), INVALID);
        due("space 0", x.sendShort(1, 0, 0), INVALID);
        due("space 60001", x.sendShort(1, 0, 60001), INVALID);
        x.append(0, 5);
        due("a space at the end", x.sendShort(0, 0, 1), STATE);
        due("a wrong one before that", x.sendShort(0, 0, 0), INVALID);
        for (int i = 9; i <= 197; i++) {
            x.append(0, 5);
        }
        due("to 201", x.sendShort(0, 0, 1), CAPACITY);
        x.undo();
        x.undo();
        due("to 199", x.sendShort(0, 0, 1), 199);
        due("an empty train", x.sendShort(2, 0, 9), 3);
    }

    private static void promise19Clear() {
        promise = "promise 19";
        PulseRemote x = new PulseRemote();
        put(x, 0, 1, 2, 3);
        put(x, 1, 4);
        due("the number that it had", x.clear(0), 3);
        dueTrain(x, 0);
        dueTrain(x, 1, 4);
        int saved = x.count(3);
        due("an empty one", x.clear(0), 0);
        due("that saves, too", x.count(3), saved < 6 ? saved + 1 : 6);
        due("slot -1", x.clear(-1), INVALID);
        due("slot 3", x.clear(3), INVALID);
        due("what follows is a new train", x.append(0, 9), 1);
    }

    private static void dueOverlay(int[] first, int[] second, int offset, int... result) {
        PulseRemote x = new PulseRemote();
        put(x, 1, first);
        put(x, 2, second);
        due("overlay", x.overlay(1, 2, offset), result.length);
        dueTrain(x, 1, result);
        dueTrain(x, 2, second);
    }

    private static void promise20Overlay() {
        promise = "promise 20";
        int[] one = {100};
        int[] three = {100, 200, 100};
        dueOverlay(one, one, 0, 100);
        dueOverlay(one, one, 99, 199);
        dueOverlay(one, one, 100, 200);
        dueOverlay(one, one, 101, 100, 1, 100);
        dueOverlay(one, one, 60000, 100, 59900, 100);
        dueOverlay(three, one, 50, 150, 150, 100);
        dueOverlay(three, one, 100, 200, 100, 100);
        dueOverlay(three, one, 150, 100, 50, 100, 50, 100);
        dueOverlay(three, one, 200, 100, 100, 200);
        dueOverlay(three, one, 300, 100, 200, 100);
        dueOverlay(three, one, 350, 100, 200, 150);
        dueOverlay(three, one, 400, 100, 200, 200);
        dueOverlay(three, three, 100, 200, 100, 200);
        dueOverlay(new int[] {1000}, three, 300, 1000);
        dueOverlay(one, new int[] {1000, 5, 5}, 10, 1010, 5, 5);
        dueOverlay(new int[] {10, 10, 10, 10, 10, 10, 10}, new int[] {34, 1, 1}, 5, 39, 1, 10, 10, 10);
        dueOverlay(new int[] {10, 10, 10, 10, 10, 10, 10}, new int[] {35, 6, 1}, 5, 50, 10, 10);
    }

    private static void promise20OverlayErrors() {
        PulseRemote x = new PulseRemote();
        put(x, 0, 100);
        put(x, 1, 100);
        due("slot -1", x.overlay(-1, 0, 0), INVALID);
        due("slot 3", x.overlay(3, 0, 0), INVALID);
        due("over -1", x.overlay(0, -1, 0), INVALID);
        due("over 3", x.overlay(0, 3, 0), INVALID);
        due("the same slot", x.overlay(0, 0, 0), INVALID);
        due("the same empty slot", x.overlay(2, 2, 0), INVALID);
        due("offset -1", x.overlay(0, 1, -1), INVALID);
        due("offset 60001", x.overlay(0, 1, 60001), INVALID);
        due("an empty one over it", x.overlay(0, 2, 0), STATE);
        due("over an empty one", x.overlay(2, 0, 0), STATE);
        x.append(0, 7);
        due("a space at its end", x.overlay(0, 1, 0), STATE);
        due("a space at the end of the other", x.overlay(1, 0, 0), STATE);
        put(x, 0, 60000);
        put(x, 1, 60000);
        due("a mark of 60001", x.overlay(0, 1, 1), CAPACITY);
        due("a mark of 60000", x.overlay(0, 1, 0), 1);
        put(x, 0, 1, 60000, 1);
        put(x, 1, 2, 1, 1);
        due("a space of 60000 is gone", x.overlay(0, 1, 59999), 3);
        dueTrain(x, 0, 1, 59998, 4);
        put(x, 0, 60000, 1, 1);
        put(x, 1, 1, 1, 1);
        due("a mark of 60002", x.overlay(0, 1, 60000), CAPACITY);
        x = new PulseRemote();
        put(x, 1, 1);
        for (int i = 0; i < 199; i++) {
            x.append(0, 1);
        }
        due("to 201", x.overlay(0, 1, 300), CAPACITY);
        x.undo();
        x.undo();
        due("to 199", x.overlay(0, 1, 300), 199);
        put(x, 1, 30000, 1, 1);
        put(x, 0, 1);
        due("a space of 60000", x.overlay(0, 1, 60000), 5);
        due("the other way round", x.overlay(1, 0, 60000), 9);
    }

    private static void promise21Distort() {
        promise = "promise 21";
        PulseRemote x = new PulseRemote();
        put(x, 0, 1000, 1000, 1000, 999, 999, 999, 1);
        due("shorter, the same, longer", x.distort(0, 10, 0), 4);
        dueTrain(x, 0, 900, 1000, 1100, 899, 999, 1098, 1);
        put(x, 0, 1000, 1000, 1000, 999, 999, 999, 1);
        due("longer, the same, shorter", x.distort(0, 10, 1), 4);
        dueTrain(x, 0, 1100, 1000, 900, 1098, 999, 899, 1);
        put(x, 0, 60000, 60000, 60000, 50000, 5, 50000);
        due("at most 60000", x.distort(0, 30, 0), 3);
        dueTrain(x, 0, 42000, 60000, 60000, 35000, 5, 60000);
        put(x, 0, 3, 3, 3);
        due("rounded down", x.distort(0, 30, 0), 1);
        dueTrain(x, 0, 2, 3, 3);
        int before = x.count(3);
        due("by nothing", x.distort(0, 0, 0), 0);
        due("that saves, too", x.count(3), Math.min(6, before + 1));
        due("an empty train", x.distort(1, 30, 0), 0);
        due("slot -1", x.distort(-1, 1, 0), INVALID);
        due("slot 3", x.distort(3, 1, 0), INVALID);
        due("percent -1", x.distort(0, -1, 0), INVALID);
        due("percent 31", x.distort(0, 31, 0), INVALID);
        due("turn -1", x.distort(0, 1, -1), INVALID);
        due("turn 2", x.distort(0, 1, 2), INVALID);
        dueTrain(x, 0, 2, 3, 3);
    }

    private static void promise22Duration() {
        promise = "promise 22";
        PulseRemote x = new PulseRemote();
        put(x, 1, 11, 22, 33);
        for (int i = 0; i < 3; i++) {
            due("its durations", x.duration(1, i), 11 * (i + 1));
        }
        due("not so many", x.duration(1, 3), NONE);
        due("by far not so many", x.duration(1, Integer.MAX_VALUE), NONE);
        due("an empty train", x.duration(0, 0), NONE);
        due("index -1", x.duration(1, -1), INVALID);
        due("slot -1", x.duration(-1, 0), INVALID);
        due("slot 3", x.duration(3, 0), INVALID);
        x.clear(1);
        due("what was there before", x.duration(1, 0), NONE);
    }

    private static void promise23Length() {
        promise = "promise 23";
        PulseRemote x = new PulseRemote();
        put(x, 1, 11, 22);
        due("empty", x.length(0), 0);
        due("two", x.length(1), 2);
        due("slot -1", x.length(-1), INVALID);
        due("slot 3", x.length(3), INVALID);
    }

    private static void promise24FrameCount() {
        promise = "promise 24";
        PulseRemote x = new PulseRemote();
        due("an empty train", x.frameCount(0), 0);
        x.append(0, 60000);
        due("one mark", x.frameCount(0), 1);
        x.append(0, 5);
        due("a short space at the end", x.frameCount(0), 1);
        put(x, 0, 60000, 10001);
        due("a long space at the end", x.frameCount(0), 1);
        x.append(0, 5);
        due("a mark behind it", x.frameCount(0), 2);
        put(x, 0, 5, 10000, 20000, 10001, 5, 60000, 5, 1, 5);
        due("long spaces, long marks", x.frameCount(0), 3);
        due("slot -1", x.frameCount(-1), INVALID);
        due("slot 3", x.frameCount(3), INVALID);
        x = new PulseRemote();
        for (int i = 0; i < 200; i++) {
            x.append(0, 10001);
        }
        due("a hundred of them", x.frameCount(0), 100);
        due("the last one", x.frame(0, 99, 0), 198);
    }

    private static void promise25Frame() {
        promise = "promise 25";
        PulseRemote x = withProtocol(DISTANCE, 3, 0, WHOLE);
        add(x, WIDTH, 3, 1, SHORT);
        add(x, PHASE, 3, 0, SHORT);
        put(x, 0, 7, 20000);
        x.append(0, 7);
        x.send(0, 0, 5, 20000);
        x.send(0, 1, 6, 20000);
        x.sendShort(0, 2, 20000);
        x.append(0, 20000);
        int[][] frames = {{0, 1, NONE, NONE, NONE}, {2, 1, NONE, NONE, NONE}, {4, 9, 0, 5, 0}, {14, 7, 1, 6, 0},
            {22, 3, 1, NONE, 1}};
        for (int frame = 0; frame < frames.length; frame++) {
            for (int what = 0; what < 5; what++) {
                due("frame " + frame + ", " + what, x.frame(0, frame, what), frames[frame][what]);
            }
        }
        due("no such frame", x.frame(0, 5, 0), NONE);
        due("no such frame at all", x.frame(0, Integer.MAX_VALUE, 4), NONE);
        due("an empty train", x.frame(1, 0, 0), NONE);
        due("frame -1", x.frame(0, -1, 0), INVALID);
        due("what -1", x.frame(0, 0, -1), INVALID);
        due("what 5", x.frame(0, 0, 5), INVALID);
        due("what 5 without a frame", x.frame(0, 9, 5), INVALID);
        due("slot -1", x.frame(-1, 0, 0), INVALID);
        due("slot 3", x.frame(3, 0, 0), INVALID);
    }

    private static void promise25FrameSmallestCode() {
        PulseRemote x = withProtocol(DISTANCE, 3, 0, WHOLE);
        x.setLengths(0, 900, 450, 100, 110, 100);
        x.send(0, 0, 7, 1);
        due("all bits match B, too", x.frame(0, 0, 3), 0);
        x.setTolerance(9);
        due("no bit matches B", x.frame(0, 0, 3), 7);
        x.setTolerance(10);
        put(x, 0, 900, 450, 100, 100, 100, 98, 100, 122, 100);
        due("only the second one does not match B", x.frame(0, 0, 3), NONE);
        put(x, 0, 900, 450, 100, 100, 100, 98, 100, 121, 100);
        due("and the third one not C", x.frame(0, 0, 3), 2);
        x = withProtocol(WIDTH, 3, 1, WHOLE);
        add(x, WIDTH, 3, 0, WHOLE);
        x.send(0, 1, 4, 1);
        due("the protocol with the smallest number", x.frame(0, 0, 2), 0);
        due("and its code", x.frame(0, 0, 3), 1);
        x = withProtocol(WIDTH, 1, 0, SHORT);
        x.setLengths(0, 900, 450, 100, 100, 300);
        add(x, WIDTH, 1, 0, WHOLE);
        x.setLengths(1, 900, 225, 100, 100, 300);
        x.sendShort(0, 0, 1);
        due("a code of any protocol goes before a short frame", x.frame(0, 0, 2), 1);
        due("its code", x.frame(0, 0, 3), 0);
        x = new PulseRemote();
        add(x, DISTANCE, 3, 0, WHOLE);
        add(x, DISTANCE, 4, 0, TOGGLED);
        x.sendShort(0, 0, 1);
        due("a short frame without the repetition", x.frame(0, 0, 2), NONE);
        add(x, DISTANCE, 4, 0, SHORT);
        add(x, DISTANCE, 4, 0, SHORT);
        due("the first one with the repetition", x.frame(0, 0, 2), 2);
        due("it is short", x.frame(0, 0, 4), 1);
        x.setLengths(2, 900, 449, 100, 100, 300);
        x.setTolerance(0);
        due("S / 2 is rounded down", x.frame(0, 0, 2), 3);
    }

    private static void promise25FramePhase() {
        PulseRemote x = withProtocol(PHASE, 4, 0, WHOLE);
        for (int code = 0; code < 16; code++) {
            x.clear(0);
            x.send(0, 0, code, 1);
            x.setTolerance(0);
            due("exact", x.frame(0, 0, 3), code);
        }
        x = withProtocol(PHASE, 2, 0, WHOLE);
        x.setLengths(0, 900, 4500, 560, 0, 0);
        put(x, 0, 900, 4500, 560, 560, 560);
        due("S and S + A match: 00 goes before 11", x.frame(0, 0, 3), 0);
        x.setTolerance(11);
        due("S + A does not match", x.frame(0, 0, 3), 3);
        x.setTolerance(40);
        x.setLengths(0, 900, 450, 100, 0, 0);
        put(x, 0, 900, 450, 100, 140, 100);
        due("the first bit 0 needs one more, 5 durations", x.frame(0, 0, 3), 0);
        x = withProtocol(PHASE, 4, 0, WHOLE);
        x.setTolerance(40);
        put(x, 0, 900, 500, 130, 130, 130);
        due("5 durations: 0101", x.frame(0, 0, 3), 5);
        put(x, 0, 900, 500, 130);
        due("fewer durations than any code has", x.frame(0, 0, 3), NONE);
        put(x, 0, 900, 500, 130, 130, 130, 130, 130);
        due("130 matches A and 2 A: of 0010, 0011, 0110 .. the smallest", x.frame(0, 0, 3), smallestOf(x, 7));
        put(x, 0, 900, 500, 130, 130, 130, 130, 130, 130, 130);
        due("9 durations: 0000", x.frame(0, 0, 3), 0);
    }

    /** The smallest code of protocol 0, 4 bits, whose frame has so many durations. */
    private static int smallestOf(PulseRemote x, int size) {
        for (int code = 0; code < 16; code++) {
            x.clear(2);
            if (x.send(2, 0, code, 1) == size) {
                return code;
            }
        }
        return NONE;
    }

    private static void promise25FrameTolerance() {
        PulseRemote x = withProtocol(DISTANCE, 1, 0, WHOLE);
        int[] edge = {1080, 360, 120, 80, 100};
        put(x, 0, edge);
        due("20 percent off", x.frame(0, 0, 3), 0);
        for (int i = 0; i < 5; i++) {
            int[] beyond = edge.clone();
            beyond[i] = new int[] {1081, 359, 121, 79, 121}[i];
            put(x, 0, beyond);
            due("more than 20 percent off at " + i, x.frame(0, 0, 3), NONE);
        }
        put(x, 0, 900, 450, 100, 100, 100, 100, 100);
        due("too many durations", x.frame(0, 0, 3), NONE);
        put(x, 0, 900, 450, 100);
        due("too few durations", x.frame(0, 0, 3), NONE);
    }

    private static void promise26Deviation() {
        promise = "promise 26";
        PulseRemote x = withProtocol(DISTANCE, 2, 0, SHORT);
        x.send(0, 0, 1, 1);
        due("exact", x.deviation(0, 0), 0);
        put(x, 0, 900, 450, 100, 100, 100, 333, 100, 20000, 901, 226, 100, 20000, 7);
        due("33 of 300", x.deviation(0, 0), 110);
        due("a short frame: 1 of 225", x.deviation(0, 1), 4);
        due("it decodes to nothing", x.deviation(0, 2), NONE);
        due("no such frame", x.deviation(0, 3), NONE);
        due("an empty train", x.deviation(1, 0), NONE);
        due("frame -1", x.deviation(0, -1), INVALID);
        due("slot -1", x.deviation(-1, 0), INVALID);
        due("slot 3", x.deviation(3, 0), INVALID);
        put(x, 1, 800, 450, 100, 100, 100, 300, 100);
        due("100 of 900", x.deviation(1, 0), 111);
        put(x, 1, 900, 450, 100, 100, 100, 300, 120);
        due("20 of 100, the last one", x.deviation(1, 0), 200);
        x.setLengths(0, 900, 450, 100, 110, 100);
        put(x, 1, 900, 450, 100, 100, 100, 100, 100);
        due("the smallest code counts: 10 of 110", x.deviation(1, 0), 90);
        x = withProtocol(PHASE, 2, 0, WHOLE);
        put(x, 0, 900, 450, 100, 210, 100);
        due("phase, 10 of 200", x.deviation(0, 0), 50);
    }

    private static void promise27PressCount() {
        promise = "promise 27";
        PulseRemote x = withProtocol(WIDTH, 2, 0, WHOLE);
        due("an empty train", x.pressCount(0), 0);
        x.send(0, 0, 1, 1);
        x.send(0, 0, 1, 20000);
        x.send(0, 0, 2, 20000);
        due("two codes", x.pressCount(0), 2);
        due("slot -1", x.pressCount(-1), INVALID);
        due("slot 3", x.pressCount(3), INVALID);
        x.append(1, 7);
        due("only a stray", x.pressCount(1), 0);
        x.setLengths(0, 900, 450, 100, 100, 300);
        x = withProtocol(WIDTH, 1, 0, WHOLE);
        for (int i = 0; i < 50; i++) {
            x.send(0, 0, i < 31 ? i % 2 : 0, 20000);
        }
        due("at most 30 are listed", x.pressCount(0), 30);
        due("the last listed one", x.press(0, 29, 1), 1);
        due("its count", x.press(0, 29, 2), 1);
        due("no other one", x.press(0, 30, 1), NONE);
        due("frames that continue one that is not listed are no strays", x.strayCount(0), 0);
        x.clear(0);
        for (int i = 0; i < 31; i++) {
            x.send(0, 0, i < 30 ? i % 2 : 1, 20000);
        }
        due("the last listed one is held", x.press(0, 29, 2), 2);
    }

    private static void promise28Press() {
        promise = "promise 28";
        PulseRemote x = withProtocol(WIDTH, 3, 0, WHOLE);
        add(x, DISTANCE, 3, 0, SHORT);
        add(x, DISTANCE, 4, 0, TOGGLED);
        x.send(0, 0, 1, 1);
        x.send(0, 0, 1, 20000);
        x.send(0, 0, 1, 20000);
        x.send(0, 1, 5, 20000);
        x.sendShort(0, 1, 20000);
        x.send(0, 1, 5, 20000);
        x.send(0, 2, 9, 20000);
        x.send(0, 2, 9, 20000);
        x.send(0, 2, 1, 20000);
        int[][] presses = {{0, 1, 3}, {1, 5, 2}, {1, 5, 1}, {2, 9, 2}, {2, 1, 1}};
        due("so many", x.pressCount(0), presses.length);
        for (int press = 0; press < presses.length; press++) {
            for (int what = 0; what < 3; what++) {
                due("press " + press + ", " + what, x.press(0, press, what), presses[press][what]);
            }
            due("no button", x.press(0, press, 3), NONE);
        }
        due("no stray", x.strayCount(0), 0);
        due("no such press", x.press(0, 5, 0), NONE);
        due("no such press at all", x.press(0, Integer.MAX_VALUE, 0), NONE);
        due("press -1", x.press(0, -1, 0), INVALID);
        due("what -1", x.press(0, 0, -1), INVALID);
        due("what 4", x.press(0, 0, 4), INVALID);
        due("what 4 without a press", x.press(0, 9, 4), INVALID);
        due("slot -1", x.press(-1, 0, 0), INVALID);
        due("slot 3", x.press(3, 0, 0), INVALID);
    }

    private static void promise28PressHold() {
        PulseRemote x = withProtocol(DISTANCE, 3, 0, SHORT);
        x.send(0, 0, 5, 1);
        x.sendShort(0, 0, 40000);
        x.sendShort(0, 0, 40001);
        x.sendShort(0, 0, 20000);
        due("one press", x.pressCount(0), 1);
        due("it was held once", x.press(0, 0, 2), 2);
        due("behind a stray frame nothing goes on", x.strayCount(0), 2);
        x = withProtocol(WIDTH, 3, 0, WHOLE);
        x.send(0, 0, 5, 1);
        x.append(0, 20000);
        x.append(0, 7);
        x.send(0, 0, 5, 20000);
        due("a stray frame between the same codes", x.pressCount(0), 2);
        due("is one", x.strayCount(0), 1);
        x = withProtocol(WIDTH, 3, 0, WHOLE);
        add(x, DISTANCE, 3, 0, SHORT);
        x.send(0, 0, 5, 1);
        x.sendShort(0, 1, 20000);
        due("the short frame of another protocol is stray", x.strayCount(0), 1);
        due("and adds nothing", x.press(0, 0, 2), 1);
        x.clear(0);
        x.sendShort(0, 1, 20000);
        due("a short frame at the beginning is stray", x.strayCount(0), 1);
        due("and no press", x.pressCount(0), 0);
        x = withProtocol(WIDTH, 3, 0, TOGGLED);
        x.send(0, 0, 5, 1);
        x.send(0, 0, 5, 40000);
        x.send(0, 0, 5, 40001);
        due("toggled: held, then let go", x.pressCount(0), 2);
        due("held", x.press(0, 0, 2), 2);
        x = withProtocol(WIDTH, 3, 0, WHOLE);
        add(x, DISTANCE, 3, 0, WHOLE);
        x.send(0, 0, 5, 1);
        x.send(0, 1, 5, 20000);
        due("the same code of another protocol", x.pressCount(0), 2);
    }

    private static void promise28PressButton() {
        PulseRemote x = withProtocol(WIDTH, 3, 0, WHOLE);
        add(x, DISTANCE, 3, 0, TOGGLED);
        add(x, PHASE, 3, 1, TOGGLED);
        x.addButton(1, 2);
        x.addButton(2, 2);
        x.addButton(0, 2);
        x.addButton(0, 6);
        x.send(0, 0, 6, 1);
        x.send(0, 1, 6, 20000);
        x.send(0, 2, 3, 20000);
        x.send(0, 0, 2, 20000);
        x.send(0, 1, 2, 20000);
        x.send(0, 1, 5, 20000);
        int[] buttons = {3, 0, 1, 2, 0, NONE};
        for (int press = 0; press < buttons.length; press++) {
            due("the button of press " + press, x.press(0, press, 3), buttons[press]);
        }
        due("the code stays as it was sent", x.press(0, 1, 1), 6);
    }

    private static void promise29StrayCount() {
        promise = "promise 29";
        PulseRemote x = withProtocol(WIDTH, 3, 0, WHOLE);
        due("an empty train", x.strayCount(0), 0);
        put(x, 0, 7, 20000, 7, 20000, 7, 20000);
        due("three", x.strayCount(0), 3);
        x.append(0, 7);
        x.send(0, 0, 5, 20000);
        due("four and a press", x.strayCount(0), 4);
        due("the press", x.pressCount(0), 1);
        due("slot -1", x.strayCount(-1), INVALID);
        due("slot 3", x.strayCount(3), INVALID);
        x = new PulseRemote();
        for (int i = 0; i < 100; i++) {
            x.append(0, 7);
            x.append(0, 20000);
        }
        due("a hundred", x.strayCount(0), 100);
    }

    private static void promise30NeededTolerance() {
        promise = "promise 30";
        PulseRemote x = withProtocol(DISTANCE, 1, 0, SHORT);
        due("no frame at all", x.neededTolerance(0), 0);
        x.send(0, 0, 1, 1);
        due("exact", x.neededTolerance(0), 0);
        put(x, 0, 909, 450, 100, 100, 100);
        due("9 of 900", x.neededTolerance(0), 1);
        put(x, 0, 910, 450, 100, 100, 100);
        due("10 of 900", x.neededTolerance(0), 2);
        put(x, 0, 900, 450, 100, 100, 140);
        due("40 of 100", x.neededTolerance(0), 40);
        put(x, 0, 900, 450, 100, 100, 141);
        due("41 of 100", x.neededTolerance(0), NONE);
        put(x, 0, 900, 450, 107, 100, 100, 20000, 900, 225, 113, 20000, 900, 450, 95, 300, 100);
        due("the worst of three frames, a short one", x.neededTolerance(0), 13);
        x.setTolerance(0);
        due("whatever the tolerance is", x.neededTolerance(0), 13);
        due("and it stays", x.setTolerance(20), 0);
        x.append(0, 20000);
        x.append(0, 7);
        due("a frame that never decodes", x.neededTolerance(0), NONE);
        put(x, 0, 900, 450, 100, 140, 100);
        due("B is nearer than C", x.neededTolerance(0), 40);
        due("slot -1", x.neededTolerance(-1), INVALID);
        due("slot 3", x.neededTolerance(3), INVALID);
        x = new PulseRemote();
        x.append(0, 7);
        due("no protocol", x.neededTolerance(0), NONE);
    }

    private static void dueExplanation(PulseRemote x, int step, int i, int j, int offset) {
        due("i", x.explain(0, step, 0), i);
        due("j", x.explain(0, step, 1), j);
        due("offset", x.explain(0, step, 2), offset);
    }

    private static void promise31Explain() {
        promise = "promise 31";
        PulseRemote x = withProtocol(WIDTH, 3, 0, WHOLE);
        due("no button", x.explain(0, 50, 0), NONE);
        x.addButton(0, 1);
        x.addButton(0, 6);
        x.addButton(0, 7);
        due("an empty train", x.explain(0, 50, 0), NONE);
        x.setTolerance(0);
        x.send(0, 0, 7, 1);
        // what code 1 adds at the same moment is inside of the marks of code 7
        dueExplanation(x, 50, 0, 2, 0);
        x.send(1, 0, 1, 1);
        x.overlay(0, 1, 29 * 100);
        dueExplanation(x, 100, 2, 0, 2900);
        due("step 99 misses it", x.explain(0, 99, 2), NONE);
        x.clear(0);
        x.send(0, 0, 7, 1);
        x.overlay(0, 1, 30 * 100);
        due("offset number 30 is not tried", x.explain(0, 100, 2), NONE);
        dueExplanation(x, 200, 2, 0, 3000);
        x.append(0, 5);
        due("a space at the end", x.explain(0, 200, 0), NONE);
        x.append(0, 5);
        due("one more mark", x.explain(0, 200, 0), NONE);
        x.clear(0);
        x.send(0, 0, 6, 1);
        x.clear(1);
        x.send(1, 0, 6, 1);
        x.overlay(0, 1, 1900);
        x.distort(0, 20, 1);
        due("distorted", x.explain(0, 50, 0), NONE);
        x.setTolerance(20);
        dueExplanation(x, 1900, 1, 1, 1900);
        explainErrors(x);
    }

    private static void explainErrors(PulseRemote x) {
        due("slot -1", x.explain(-1, 50, 0), INVALID);
        due("slot 3", x.explain(3, 50, 0), INVALID);
        due("step 49", x.explain(0, 49, 0), INVALID);
        due("step 2001", x.explain(0, 2001, 0), INVALID);
        due("step 50", x.explain(2, 50, 0), NONE);
        due("step 2000", x.explain(2, 2000, 0), NONE);
        due("part -1", x.explain(0, 50, -1), INVALID);
        due("part 3", x.explain(0, 50, 3), INVALID);
        PulseRemote y = withProtocol(WIDTH, 1, 0, TOGGLED);
        y.addButton(0, 1);
        y.setTolerance(0);
        y.send(0, 0, 1, 1);
        due("the collision is that of the identities", y.explain(0, 50, 0), NONE);
        y.clear(0);
        y.send(0, 0, 0, 1);
        due("so is this", y.explain(0, 50, 0), 0);
        PulseRemote z = withProtocol(WIDTH, 2, 0, WHOLE);
        z.addButton(0, 1);
        z.send(0, 0, 2, 1);
        z.addButton(0, 2);
        due("a button", z.explain(0, 50, 0), 1);
        z.undo();
        due("a button that is no more", z.explain(0, 50, 0), NONE);
    }

    private static void promise32Ghosts() {
        promise = "promise 32";
        PulseRemote x = withProtocol(WIDTH, 2, 0, WHOLE);
        due("no button", x.ghosts(0), 0);
        x.setLengths(0, 900, 450, 400, 200, 220);
        x.addButton(0, 0);
        x.addButton(0, 1);
        x.addButton(0, 2);
        due("220 reads as 0: 1 and 1, 1 and 2, 2 and 2 show button 0", x.ghosts(0), 3);
        x.setTolerance(2);
        due("exact", x.ghosts(0), 0);
        x.setLengths(0, 900, 450, 350, 100, 130);
        x.addButton(0, 3);
        x.setTolerance(10);
        due("shifted by 30", x.ghosts(30), countGhosts(x, 30));
        x = withProtocol(WIDTH, 2, 0, WHOLE);
        add(x, WIDTH, 2, 1, WHOLE);
        x.addButton(0, 1);
        x.addButton(1, 1);
        due("far apart; 1 of protocol 1 reads as 2 of protocol 0", x.ghosts(60000), 0);
        x.addButton(0, 2);
        due("and 2 of protocol 0 is a button now", x.ghosts(60000), 2);
        due("at the same moment only 1 and 1", x.ghosts(0), 1);
        due("near each other they do not decode", x.ghosts(37), 0);
        x.setGap(60000);
        due("no frames apart", x.ghosts(30000), 0);
        toggledGhosts();
        due("offset -1", x.ghosts(-1), INVALID);
        due("offset 60001", x.ghosts(60001), INVALID);
    }

    private static void toggledGhosts() {
        PulseRemote x = withProtocol(WIDTH, 2, 0, TOGGLED);
        x.setTolerance(0);
        add(x, WIDTH, 2, 1, WHOLE);
        x.addButton(1, 1);
        x.addButton(0, 0);
        due("its frame reads as 2 of protocol 0, whose identity is 0", x.ghosts(60000), 1);
        x.addButton(1, 0);
        due("the frame of 0 as 0: 0 and 0, 0 and 2, 2 and 2", x.ghosts(60000), 3);
        x = withProtocol(DISTANCE, 2, 0, SHORT);
        add(x, WIDTH, 1, 0, WHOLE);
        x.setLengths(1, 900, 225, 500, 100, 300);
        x.addButton(0, 0);
        x.addButton(1, 0);
        due("all read as themselves", x.ghosts(60000), 0);
        x = withProtocol(WIDTH, 2, 0, WHOLE);
        add(x, WIDTH, 2, 1, WHOLE);
        x.addButton(0, 2);
        x.addButton(1, 1);
        due("its frame reads as 2 of protocol 0", x.ghosts(60000), 1);
        x.undo();
        due("a button that is no more", x.ghosts(60000), 0);
    }

    /** Ghosts of one protocol counted by hand: with overlay() in slot 0 and frame(). */
    private static int countGhosts(PulseRemote x, int offset) {
        int pairs = 0;
        for (int i = 0; i < x.count(1); i++) {
            for (int j = i; j < x.count(1); j++) {
                x.clear(0);
                x.clear(1);
                x.send(0, x.button(i, 0), x.button(i, 1), 1);
                x.send(1, x.button(j, 0), x.button(j, 1), 1);
                x.overlay(0, 1, offset);
                int code = x.frame(0, 0, 3);
                boolean ghost = false;
                for (int k = 0; k < x.count(1); k++) {
                    ghost = ghost || code >= 0 && k != i && k != j && x.button(k, 1) == code;
                }
                pairs += ghost ? 1 : 0;
            }
        }
        return pairs;
    }

    private static void promise33Undo() {
        promise = "promise 33";
        PulseRemote x = new PulseRemote();
        due("nothing is saved", x.undo(), STATE);
        for (int i = 1; i <= 8; i++) {
            x.append(0, i);
        }
        due("six are saved", x.count(3), 6);
        for (int i = 5; i >= 0; i--) {
            due("so many are left", x.undo(), i);
            due("the train gets shorter", x.length(0), i + 2);
        }
        due("no more", x.undo(), STATE);
        dueTrain(x, 0, 1, 2);
        x.append(0, 33);
        dueTrain(x, 0, 1, 2, 33);
        due("one again", x.undo(), 0);
        dueTrain(x, 0, 1, 2);
    }

    private static void promise33UndoBringsAllBack() {
        PulseRemote x = withProtocol(WIDTH, 2, 0, WHOLE);
        x.append(1, 9);
        x.addButton(0, 1);
        write(x, "abc");
        x.setLengths(0, 800, 400, 200, 200, 500);
        due("setLengths", x.undo() >= 0 ? x.protocol(0, 1) : NONE, 900);
        x.addProtocol(PHASE, 1, 0, WHOLE);
        due("addProtocol", x.undo() >= 0 ? x.count(0) : NONE, 1);
        x.addButton(0, 2);
        due("addButton", x.undo() >= 0 ? x.count(1) : NONE, 1);
        x.setGap(2000);
        x.undo();
        due("setGap", x.setGap(3000), 10000);
        x.setHold(2000);
        x.undo();
        due("setHold", x.setHold(3000), 40000);
        x.setTolerance(2);
        x.undo();
        due("setTolerance", x.setTolerance(20), 20);
        x.send(1, 0, 1, 5);
        due("send", x.undo() >= 0 ? x.length(1) : NONE, 1);
        x.sendShort(1, 0, 5);
        due("sendShort", x.undo() >= 0 ? x.length(1) : NONE, 1);
        x.clear(1);
        due("clear", x.undo() >= 0 ? x.length(1) : NONE, 1);
        x.append(2, 5);
        x.overlay(1, 2, 100);
        due("overlay", x.undo() >= 0 ? x.length(1) : NONE, 1);
        x.distort(1, 30, 0);
        due("distort", x.undo() >= 0 ? x.duration(1, 0) : NONE, 9);
        due("the text stays", x.count(2), 3);
        put(x, 0, 1000, 500, 100, 100, 200);
        due("learn", x.learn(0), 1);
        due("learn", x.undo() >= 0 ? x.count(0) : NONE, 1);
        due("load", loaded(x, " "), 0);
        due("load", x.undo() >= 0 ? x.count(0) : NONE, 1);
        due("load brings buttons back, too", x.button(0, 1), 1);
        int saved = x.count(3);
        x.frame(0, 0, 3);
        x.neededTolerance(0);
        x.explain(0, 50, 0);
        x.ghosts(0);
        x.appendCharacter(32);
        x.clearText();
        x.addButton(0, 99);
        due("what only looks saves nothing", x.count(3), saved);
    }
}
