/** The section Learning, and promises 6 and 7. */
public final class SentencesOfLearningTest extends Sentences {
    /** The gap that parts no frames. */
    private static final Setup NO_GAP = x -> x.setGap(60000);
    private static final int[] BY_DISTANCE = {1000, 500, 100, 200, 100, 400, 100};
    private static final int[] BY_WIDTH = {1000, 500, 200, 100, 400, 100, 200};

    public static void main(String[] args) {
        runAll(SentencesOfLearningTest.class);
    }

    /** What is learned from train 0: the properties of a protocol. */
    private static void learned(Setup setup, int... properties) {
        PulseRemote x = made(setup);
        int before = x.count(0);
        due("the number", x.learn(0), before);
        dueProtocol(x, before, properties);
        due("the protocols then", x.count(0), before + 1);
    }

    private static void nothingLearned(Setup setup) {
        refused(setup, x -> x.learn(0), STATE);
    }

    /** What clusters() answers for train 0. */
    private static void clusters(Setup setup, int marks, int spaces) {
        answers(setup, x -> x.clusters(0, 0), marks);
        answers(setup, x -> x.clusters(0, 1), spaces);
    }

    /** A frame by distance with so many bits: A 100, and B 100 and C 300 in turn. */
    private static Setup distance(int bits) {
        return x -> {
            train(0, 1000, 500).on(x);
            for (int bit = 0; bit < bits; bit++) {
                train(0, 100, bit % 2 == 0 ? 100 : 300).on(x);
            }
            x.append(0, 100);
        };
    }

    /** A frame by width with so many bits: A 100, and B 100 and C 300 in turn. */
    private static Setup width(int bits) {
        return x -> {
            train(0, 1000, 500, 100).on(x);
            for (int bit = 1; bit < bits; bit++) {
                train(0, 100, bit % 2 == 0 ? 100 : 300).on(x);
            }
        };
    }

    private static int[] with(int[] frame, int index, int duration) {
        int[] other = frame.clone();
        other[index] = duration;
        return other;
    }

    // ---- Learning

    @Says("Of its frames, those that have the same number of durations as frame 0 are taken")
    static void learning_otherFramesAreNotTaken() {
        Setup seven = train(0, BY_DISTANCE);
        int[] due = {DISTANCE, 1000, 500, 100, 200, 400, 2, 0, 0};
        learned(seven, due);
        learned(seven.then(train(0, 20000, 3000, 700, 51, 59, 54)), due);
        learned(seven.then(train(0, 20000, 3000, 20000, 60, 20000)), due);
        learned(seven.then(train(0, 20000, 3000, 700, 60, 60, 60)), due);
        learned(seven.then(train(0, 20000, 3000, 700, 60, 900, 60, 70, 80, 90, 100)), due);
        learned(seven.then(train(0, 20000, 3000, 700, 80, 220, 80, 440, 80)),
                DISTANCE, 2000, 600, 90, 210, 420, 2, 0, 0);
    }

    @Says("those that have the same number of durations as frame 0 are taken")
    static void learning_alsoTheLastFrameIsTaken() {
        Setup two = train(0, BY_DISTANCE).then(train(0, 20000)).then(train(0, 1010, 520, 104, 206, 104, 408, 104));
        int[] due = {DISTANCE, 1005, 510, 102, 203, 404, 2, 0, 0};
        learned(two, due);
        learned(two.then(train(0, 5)), due);
        learned(two.then(train(0, 60000)), due);
        learned(two.then(train(0, 20000, 7)), due);
    }

    @Says("this number must be at least 5.")
    static void learning_atLeast5Durations() {
        nothingLearned(train(0, 1000));
        nothingLearned(train(0, 1000, 500, 100));
        nothingLearned(train(0, 1000, 500, 100, 100));
        learned(train(0, 1000, 500, 100, 100, 200), WIDTH, 1000, 500, 100, 100, 200, 2, 0, 0);
        nothingLearned(train(0, 1000, 500, 100, 20000, 1000, 500, 100, 100, 200));
        learned(train(0, 1000, 500, 100, 100, 200, 20000, 1000, 500, 100), WIDTH, 1000, 500, 100, 100, 200, 2);
    }

    @Says("this number must be at least 5.")
    static void learning_oneBitByDistanceFromTwoFramesOf5() {
        learned(train(0, 1000, 500, 100, 100, 100, 20000, 1000, 500, 100, 300, 100),
                DISTANCE, 1000, 500, 100, 100, 300, 1, 0, 0);
    }

    @Says("The header mark is the mean of their first durations, the header space that of their second ones "
            + "(means are rounded down).")
    static void learning_theHeadersAreMeansRoundedDown() {
        Setup first = train(0, BY_WIDTH).then(train(0, 20000));
        learned(first.then(train(0, with(with(BY_WIDTH, 0, 1001), 1, 503))), WIDTH, 1000, 501, 100, 200, 400, 3);
        learned(first.then(train(0, with(with(BY_WIDTH, 0, 1002), 1, 504))), WIDTH, 1001, 502, 100, 200, 400, 3);
        Setup three = first.then(first).then(train(0, with(with(BY_WIDTH, 0, 1002), 1, 502)));
        learned(three, WIDTH, 1000, 500, 100, 200, 400, 3);
    }

    @Says("(means are rounded down)")
    static void learning_aMeanBelow50IsOutOfRange() {
        Setup first = train(0, with(BY_WIDTH, 0, 50)).then(train(0, 20000));
        learned(first.then(train(0, with(BY_WIDTH, 0, 50))), WIDTH, 50);
        learned(first.then(train(0, with(BY_WIDTH, 0, 51))), WIDTH, 50);
        nothingLearned(first.then(train(0, with(BY_WIDTH, 0, 49))));
    }

    @Says("(means are rounded down)")
    static void learning_aMeanOfHardlyMoreThan20000IsInRange() {
        Setup first = train(0, with(BY_WIDTH, 0, 20000)).then(train(0, 20000));
        learned(first.then(train(0, with(BY_WIDTH, 0, 20001))), WIDTH, 20000);
        nothingLearned(first.then(train(0, with(BY_WIDTH, 0, 20002))));
    }

    @Says("cut into clusters between two successive ones x and y, x at most y, where 2 * y is more than 3 * x")
    static void learning_marksAreCutWhere2YIsMoreThan3X() {
        int[][] pairs = {{100, 100, 1}, {100, 150, 1}, {100, 151, 2}, {101, 151, 1}, {101, 152, 2}, {1, 1, 1},
            {1, 2, 2}, {2, 3, 1}, {2, 4, 2}, {40000, 60000, 1}, {39999, 60000, 2}, {1, 60000, 2}};
        for (int[] pair : pairs) {
            clusters(train(0, 1000, 500, pair[0], 100, pair[1]), pair[2], 1);
            clusters(train(0, 1000, 500, pair[1], 100, pair[0]), pair[2], 1);
        }
    }

    @Says("likewise all other spaces.")
    static void learning_spacesAreCutWhere2YIsMoreThan3X() {
        int[][] pairs = {{100, 100, 1}, {100, 150, 1}, {100, 151, 2}, {101, 151, 1}, {101, 152, 2}, {1, 1, 1},
            {1, 2, 2}, {2, 3, 1}, {40000, 60000, 1}, {39999, 60000, 2}};
        for (int[] pair : pairs) {
            clusters(NO_GAP.then(train(0, 1000, 500, 100, pair[0], 100, pair[1], 100)), 1, pair[2]);
            clusters(NO_GAP.then(train(0, 1000, 500, 100, pair[1], 100, pair[0], 100)), 1, pair[2]);
        }
    }

    @Says("All other marks of these frames are sorted, and cut into clusters between two successive ones x and y")
    static void learning_sortedAndCutBetweenSuccessiveOnes() {
        clusters(train(0, 1000, 500, 225, 10, 100, 10, 150), 1, 1);
        clusters(train(0, 1000, 500, 300, 10, 100, 10, 200), 2, 1);
        clusters(train(0, 1000, 500, 100, 20, 100, 31, 100, 10, 100, 16, 100), 1, 3);
        clusters(train(0, 1000, 500, 100, 10, 400, 10, 200, 10, 101, 10, 399, 10, 201, 10, 100), 3, 1);
        clusters(train(0, 1000, 500, 100, 10, 200, 20000, 1000, 500, 150, 15, 150), 1, 1);
        clusters(train(0, 1000, 500, 100, 10, 100, 20000, 1000, 500, 200, 16, 200), 2, 2);
    }

    @Says("The length of a cluster is the mean of its durations.")
    static void learning_theLengthOfAClusterIsItsMean() {
        int[] train = {1000, 500, 100, 200, 101, 400, 103};
        learned(train(0, train), DISTANCE, 1000, 500, 101, 200, 400, 2, 0, 0);
        learned(train(0, with(train, 6, 104)), DISTANCE, 1000, 500, 101, 200, 400, 2, 0, 0);
        learned(train(0, with(train, 6, 105)), DISTANCE, 1000, 500, 102, 200, 400, 2, 0, 0);
        int[] longer = {1000, 500, 100, 200, 100, 203, 100, 400, 100, 405, 100, 405, 100};
        learned(train(0, longer), DISTANCE, 1000, 500, 100, 201, 403, 5, 0, 0);
        int[] width = {1000, 500, 200, 100, 203, 101, 400, 104, 401, 100, 407};
        learned(train(0, width), WIDTH, 1000, 500, 101, 201, 402, 5, 0, 0);
    }

    @Says("- If there are one cluster of marks and two clusters of spaces, n is odd, and (n - 3) / 2 is at most 16, "
            + "the protocol has the kind 0, A is the length of the marks, B and C are the lengths of the spaces in "
            + "ascending order, and there are (n - 3) / 2 bits.")
    static void learning_byDistanceWithAtMost16Bits() {
        for (int bits = 2; bits <= 16; bits++) {
            learned(distance(bits), DISTANCE, 1000, 500, 100, 100, 300, bits, 0, 0);
        }
        nothingLearned(distance(17));
        clusters(distance(17), 1, 2);
        nothingLearned(distance(98));
        clusters(distance(98), 1, 2);
    }

    @Says("B and C are the lengths of the spaces in ascending order, and there are (n - 3) / 2 bits.")
    static void learning_byDistanceBIsTheShorterSpace() {
        learned(train(0, 1000, 500, 100, 400, 100, 200, 100), DISTANCE, 1000, 500, 100, 200, 400, 2);
        learned(train(0, 1000, 500, 100, 200, 100, 400, 100), DISTANCE, 1000, 500, 100, 200, 400, 2);
        learned(train(0, 1000, 500, 500, 60, 500, 51, 500, 91, 500), DISTANCE, 1000, 500, 500, 55, 91, 3);
    }

    @Says("- If there are two clusters of marks and one cluster of spaces, and (n - 1) / 2 is at most 16, the protocol "
            + "has the kind 1, A is the length of the spaces, B and C are the lengths of the marks in ascending order, "
            + "and there are (n - 1) / 2 bits.")
    static void learning_byWidthWithAtMost16Bits() {
        for (int bits = 2; bits <= 16; bits++) {
            learned(width(bits), WIDTH, 1000, 500, 100, 100, 300, bits, 0, 0);
        }
        nothingLearned(width(17));
        clusters(width(17), 2, 1);
        nothingLearned(width(99));
        clusters(width(99), 2, 1);
    }

    @Says("B and C are the lengths of the marks in ascending order, and there are (n - 1) / 2 bits.")
    static void learning_byWidthBIsTheShorterMark() {
        learned(train(0, 1000, 500, 400, 100, 200), WIDTH, 1000, 500, 100, 200, 400, 2);
        learned(train(0, 1000, 500, 200, 100, 400), WIDTH, 1000, 500, 100, 200, 400, 2);
        learned(train(0, 1000, 500, 60, 500, 51, 500, 91), WIDTH, 1000, 500, 500, 55, 91, 3);
    }

    @Says("Otherwise nothing is learned")
    static void learning_nothingFromOtherNumbersOfClusters() {
        int[][] trains = {{1000, 500, 100, 100, 100, 100, 100}, {1000, 500, 100, 100, 200, 200, 100},
            {1000, 500, 100, 100, 100, 200, 100, 400, 100}, {1000, 500, 100, 100, 200, 100, 400},
            {1000, 500, 100, 100, 200, 100, 400, 200, 100}, {1000, 500, 100, 100, 200, 200, 100, 400, 100}};
        int[][] numbers = {{1, 1}, {2, 2}, {1, 3}, {3, 1}, {3, 2}, {2, 3}};
        for (int i = 0; i < trains.length; i++) {
            clusters(train(0, trains[i]), numbers[i][0], numbers[i][1]);
            nothingLearned(train(0, trains[i]));
        }
    }

    @Says("nor is it if a length would be out of its range.")
    static void learning_lengthsByDistanceFrom50To20000() {
        inRange(new int[] {50, 500, 100, 200, 100, 400, 100}, 0, 49);
        inRange(new int[] {20000, 500, 100, 200, 100, 400, 100}, 0, 20001);
        inRange(new int[] {1000, 50, 100, 200, 100, 400, 100}, 1, 49);
        inRange(new int[] {1000, 20000, 100, 200, 100, 400, 100}, 1, 20001);
        inRange(new int[] {1000, 500, 50, 200, 50, 400, 50}, 4, 49);
        inRange(new int[] {1000, 500, 20000, 200, 20000, 400, 20000}, 6, 20003);
        inRange(new int[] {1000, 500, 100, 50, 100, 400, 100}, 3, 49);
        inRange(new int[] {1000, 500, 100, 200, 100, 20000, 100}, 5, 20001);
    }

    @Says("nor is it if a length would be out of its range.")
    static void learning_lengthsByWidthFrom50To20000() {
        inRange(new int[] {50, 500, 200, 100, 400}, 0, 49);
        inRange(new int[] {20000, 500, 200, 100, 400}, 0, 20001);
        inRange(new int[] {1000, 50, 200, 100, 400}, 1, 49);
        inRange(new int[] {1000, 20000, 200, 100, 400}, 1, 20001);
        inRange(new int[] {1000, 500, 200, 50, 400}, 3, 49);
        inRange(new int[] {1000, 500, 200, 20000, 400}, 3, 20001);
        inRange(new int[] {1000, 500, 50, 100, 400}, 2, 49);
        inRange(new int[] {1000, 500, 200, 100, 20000}, 4, 20001);
    }

    /** Something is learned from the frame, but nothing if a duration is another one. */
    private static void inRange(int[] frame, int index, int other) {
        answers(NO_GAP.then(train(0, frame)), x -> x.learn(0), 0);
        nothingLearned(NO_GAP.then(train(0, with(frame, index, other))));
    }

    @Says("(For distance, all marks but the first one count, and all spaces but the first one.)")
    static void learning_theFirstOnesDoNotCount() {
        clusters(train(0, 60000, 10000, 100, 200, 100, 400, 100), 1, 2);
        clusters(train(0, 1, 1, 100, 200, 100, 400, 100), 1, 2);
        learned(train(0, 20000, 10000, 100, 200, 100, 400, 100), DISTANCE, 20000, 10000, 100, 200, 400, 2);
        clusters(train(0, 20000, 10000, 100, 100, 300), 2, 1);
    }

    @Says("(For distance, all marks but the first one count, and all spaces but the first one.)")
    static void learning_theLastMarkCounts() {
        clusters(train(0, 1000, 500, 100, 200, 100, 400, 151), 2, 2);
        clusters(train(0, 1000, 500, 100, 200, 100, 400, 100), 1, 2);
        learned(train(0, 1000, 500, 100, 200, 100, 400, 148), DISTANCE, 1000, 500, 116, 200, 400, 2);
    }

    @Says("The order is 0, the repetition is 0.")
    static void learning_theOrderAndTheRepetitionAre0() {
        Setup sent = protocol(DISTANCE, 4, LOWEST, TOGGLED).then(x -> x.send(0, 0, 5, 1));
        learned(sent, DISTANCE, 900, 450, 100, 100, 300, 4, 0, 0);
        // what an undone protocol left behind does not stay
        Setup undone = protocol(PHASE, 9, LOWEST, SHORT).then(x -> x.undo()).then(x -> x.undo());
        learned(undone.then(train(0, BY_WIDTH)), WIDTH, 1000, 500, 100, 200, 400, 3, 0, 0);
    }

    // ---- 6: learn

    @Says("Learns a protocol from the train in a slot, and adds it.")
    static void promise06_addsItBehindTheOthers() {
        PulseRemote x = made(protocol(PHASE, 9, LOWEST, SHORT).then(train(1, BY_WIDTH)));
        due("the number", x.learn(1), 1);
        due("the number of the same again", x.learn(1), 2);
        dueProtocol(x, 0, PHASE, 900, 450, 100, 0, 0, 9, 1, 1);
        dueProtocol(x, 1, WIDTH, 1000, 500, 100, 200, 400, 3, 0, 0);
        dueProtocol(x, 2, WIDTH, 1000, 500, 100, 200, 400, 3, 0, 0);
        dueTrain(x, 1, BY_WIDTH);
        due("the code of the frame", x.frame(1, 0, 3), 2);
    }

    @Says("- `slot`: 0 to 2")
    static void promise06_slotFrom0To2() {
        Setup all = train(0, BY_WIDTH).then(train(1, BY_DISTANCE)).then(train(2, BY_WIDTH));
        between(all, (x, slot) -> x.learn(slot), 0, 0, 2, 0);
        answers(all.then(x -> x.learn(1)), x -> x.protocol(0, 0), DISTANCE);
        slots((x, slot) -> x.learn(slot), 3, 3, STATE);
    }

    @Says("Returns the number of the protocol")
    static void promise06_answersTheNumber() {
        for (int before = 0; before < 6; before++) {
            answers(train(0, BY_WIDTH).then(times(before, x -> x.addProtocol(0, 1, 0, 0))), x -> x.learn(0), before);
        }
    }

    @Says("INVALID_ARGUMENT if slot is out of range")
    static void promise06_slotOutOfRange() {
        refused(RICH, x -> x.learn(-1), INVALID);
        refused(RICH, x -> x.learn(3), INVALID);
    }

    @Says("ILLEGAL_STATE if nothing is learned")
    static void promise06_nothingIsLearned() {
        nothingLearned(NEW);
        nothingLearned(train(0, 1000, 500, 100));
        nothingLearned(train(0, 1000, 500, 100, 100, 100));
        refused(RICH, x -> x.learn(2), STATE);
        nothingLearned(RICH.then(x -> x.clear(0)));
    }

    @Says("CAPACITY_EXCEEDED if there are 6 protocols.")
    static void promise06_noRoomWith6() {
        Setup five = train(0, BY_WIDTH).then(times(5, x -> x.addProtocol(0, 1, 0, 0)));
        answers(five, x -> x.learn(0), 5);
        refused(five.then(x -> x.learn(0)), x -> x.learn(0), CAPACITY);
        refused(five.then(x -> x.addProtocol(0, 1, 0, 0)), x -> x.learn(0), CAPACITY);
    }

    @Says("INVALID_ARGUMENT if slot is out of range; ILLEGAL_STATE if nothing is learned; "
            + "CAPACITY_EXCEEDED if there are 6 protocols.")
    static void promise06_theErrorThatIsNamedFirst() {
        Setup six = train(0, BY_WIDTH).then(train(1, 1000)).then(times(6, x -> x.addProtocol(0, 1, 0, 0)));
        refused(six, x -> x.learn(3), INVALID);
        refused(six, x -> x.learn(-1), INVALID);
        refused(six, x -> x.learn(1), STATE);
        refused(six, x -> x.learn(2), STATE);
        refused(six, x -> x.learn(0), CAPACITY);
    }

    // ---- 7: clusters

    @Says("Counts the clusters of durations from which learn() would learn.")
    static void promise07_ofTheFramesThatLearnWouldTake() {
        clusters(train(0, BY_DISTANCE), 1, 2);
        clusters(train(0, BY_WIDTH), 2, 1);
        clusters(train(0, BY_WIDTH).then(train(0, 20000)).then(train(0, BY_DISTANCE)), 3, 3);
        clusters(train(0, BY_WIDTH).then(train(0, 20000, 1000, 500, 1, 2, 3)), 2, 1);
        // also where nothing is learned, and where there is no room
        clusters(train(0, 1000, 500, 1, 2, 3), 2, 1);
        clusters(train(0, BY_WIDTH).then(times(6, x -> x.addProtocol(0, 1, 0, 0))), 2, 1);
    }

    @Says("Counts the clusters of durations from which learn() would learn.")
    static void promise07_notThoseOfATrainThatWasCountedBefore() {
        PulseRemote x = made(train(0, BY_DISTANCE).then(train(1, BY_WIDTH)).then(train(2, 9, 9, 9, 9, 9)));
        for (int round = 0; round < 3; round++) {
            due("marks of train 0", x.clusters(0, 0), 1);
            due("marks of train 1", x.clusters(1, 0), 2);
            due("spaces of train 1", x.clusters(1, 1), 1);
            due("spaces of train 0", x.clusters(0, 1), 2);
            due("marks of train 2", x.clusters(2, 0), 1);
        }
        due("the number", x.learn(1), 0);
        dueProtocol(x, 0, WIDTH, 1000, 500, 100, 200, 400, 3, 0, 0);
    }

    @Says("- `what`: 0 clusters of marks, 1 of spaces")
    static void promise07_what0Or1() {
        between(RICH, (x, what) -> x.clusters(0, what), 0, 1, 1, 2);
        between(RICH, (x, what) -> x.clusters(1, what), 0, 2, 1, 1);
    }

    @Says("- `slot`: 0 to 2")
    static void promise07_slotFrom0To2() {
        slots((x, slot) -> x.clusters(slot, 0), 1, 2, STATE);
    }

    @Says("Returns the number")
    static void promise07_fromOneToMany() {
        clusters(train(0, 1000, 500, 100, 100, 100), 1, 1);
        Setup powers = NO_GAP.then(train(0, 1000, 500)).then(x -> {
            for (int power = 32768; power > 0; power /= 2) {
                train(0, power, power).on(x);
            }
        }).then(train(0, 50000));
        clusters(powers, 17, 16);
        clusters(NO_GAP.then(longTrain(0, 199, 60000)), 1, 1);
        clusters(longTrain(0, 200, 1), 1, 1);
    }

    @Says("ILLEGAL_STATE if the train has no frames, or frame 0 has less than 5 durations.")
    static void promise07_noFrames() {
        for (int what = 0; what < 2; what++) {
            int of = what;
            refused(NEW, x -> x.clusters(0, of), STATE);
            refused(RICH.then(x -> x.clear(0)), x -> x.clusters(0, of), STATE);
        }
    }

    @Says("or frame 0 has less than 5 durations.")
    static void promise07_frame0HasLessThan5Durations() {
        for (int what = 0; what < 2; what++) {
            int of = what;
            refused(train(0, 1000), x -> x.clusters(0, of), STATE);
            refused(train(0, 1000, 500, 100), x -> x.clusters(0, of), STATE);
            refused(train(0, 1000, 500, 100, 100), x -> x.clusters(0, of), STATE);
            refused(train(0, 1000, 500, 100, 20000, 1000, 500, 100, 100, 200), x -> x.clusters(0, of), STATE);
            answers(train(0, 1000, 500, 100, 100, 100), x -> x.clusters(0, of), 1);
            answers(train(0, 1000, 500, 100, 100, 100, 20000, 1000, 500, 100), x -> x.clusters(0, of), 1);
        }
    }

    @Says("INVALID_ARGUMENT if an argument is out of range; ILLEGAL_STATE if the train has no frames")
    static void promise07_aWrongArgumentGoesBeforeTheState() {
        refused(NEW, x -> x.clusters(0, 2), INVALID);
        refused(NEW, x -> x.clusters(0, -1), INVALID);
        refused(NEW, x -> x.clusters(3, 0), INVALID);
        refused(RICH, x -> x.clusters(2, 2), INVALID);
        refused(RICH, x -> x.clusters(3, 2), INVALID);
    }
}
