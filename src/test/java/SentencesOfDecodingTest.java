/** What the section Protocols says of decoding, and promises 12, 25, 26 and 30. */
public final class SentencesOfDecodingTest extends Sentences {
    private static final Setup DISTANCE_2 = protocol(DISTANCE, 2, HIGHEST, WHOLE);
    private static final Setup WIDTH_2 = protocol(WIDTH, 2, HIGHEST, WHOLE);
    private static final Setup WIDTH_3 = protocol(WIDTH, 3, HIGHEST, WHOLE);
    private static final Setup PHASE_2 = protocol(PHASE, 2, HIGHEST, WHOLE);
    private static final Setup SHORT_1 = protocol(DISTANCE, 2, HIGHEST, SHORT);

    public static void main(String[] args) {
        runAll(SentencesOfDecodingTest.class);
    }

    private static Setup tolerance(int tolerance) {
        return x -> x.setTolerance(tolerance);
    }

    /** A train of this one frame decodes to a code of protocol 0. */
    private static void decodes(Setup setup, int code, int... frame) {
        PulseRemote x = made(setup.then(train(2, frame)));
        due("the number of durations", x.frame(2, 0, 1), frame.length);
        due("the protocol", x.frame(2, 0, 2), 0);
        due("the code", x.frame(2, 0, 3), code);
        due("whether it is short", x.frame(2, 0, 4), 0);
    }

    /** A train of this one frame decodes to the short frame of a protocol. */
    private static void decodesShort(Setup setup, int protocol, int... frame) {
        PulseRemote x = made(setup.then(train(2, frame)));
        due("the protocol", x.frame(2, 0, 2), protocol);
        due("the code", x.frame(2, 0, 3), NONE);
        due("whether it is short", x.frame(2, 0, 4), 1);
    }

    /** Frame 0 of train 2 has this size, and decodes to a code or, for NONE, to nothing. */
    private static void decodesWhole(Setup setup, int code, int size) {
        PulseRemote x = made(setup);
        due("the number of durations", x.frame(2, 0, 1), size);
        due("the protocol", x.frame(2, 0, 2), code == NONE ? NONE : 0);
        due("the code", x.frame(2, 0, 3), code);
    }

    private static void decodesToNothing(Setup setup, int... frame) {
        PulseRemote x = made(setup.then(train(2, frame)));
        due("the number of durations", x.frame(2, 0, 1), frame.length);
        for (int what = 2; what <= 4; what++) {
            due("property " + what, x.frame(2, 0, what), NONE);
        }
        due("the deviation", x.deviation(2, 0), NONE);
    }

    // ---- Protocols: what a frame fits

    @Says("if it has the same number of durations")
    static void protocols_fitsOnlyWithTheSameNumberByDistance() {
        decodes(DISTANCE_2, 1, 900, 450, 100, 100, 100, 300, 100);
        decodesToNothing(DISTANCE_2, 900, 450, 100, 100, 100);
        decodesToNothing(DISTANCE_2, 900, 450, 100, 100, 100, 300, 100, 300, 100);
        decodesToNothing(DISTANCE_2, 900, 450, 100);
        decodesToNothing(DISTANCE_2, 900);
        Setup sixteen = protocol(DISTANCE, 16, HIGHEST, WHOLE).then(x -> x.send(2, 0, 0x8001, 60));
        decodesWhole(sixteen, 0x8001, 35);
        decodesWhole(sixteen.then(train(2, 100, 100)), NONE, 37);
    }

    @Says("if it has the same number of durations")
    static void protocols_fitsOnlyWithTheSameNumberByWidth() {
        decodes(WIDTH_2, 1, 900, 450, 100, 100, 300);
        decodesToNothing(WIDTH_2, 900, 450, 100);
        decodesToNothing(WIDTH_2, 900, 450, 100, 100, 300, 100, 300);
        Setup sixteen = protocol(WIDTH, 16, HIGHEST, WHOLE).then(x -> x.send(2, 0, 0x8001, 60));
        decodesWhole(sixteen, 0x8001, 33);
        decodesWhole(sixteen.then(train(2, 100, 100)), NONE, 35);
    }

    @Says("if it has the same number of durations")
    static void protocols_fitsOnlyWithTheSameNumberByPhase() {
        decodes(PHASE_2, 0, 900, 550, 100, 100, 100);
        decodes(PHASE_2, 1, 900, 550, 200);
        decodesToNothing(PHASE_2, 900, 550, 100);
        decodesToNothing(PHASE_2, 900, 450, 100);
        decodesToNothing(PHASE_2, 900, 550, 100, 100, 100, 100, 100);
        decodesToNothing(PHASE_2, 900, 450, 100, 100, 100, 100, 100);
        decodesToNothing(PHASE_2, 900);
        Setup sixteen = protocol(PHASE, 16, HIGHEST, WHOLE).then(tolerance(4));
        for (int code : new int[] {0, 65535}) {
            Setup equal = sixteen.then(x -> x.send(2, 0, code, 60));
            decodesWhole(equal, code, 33);
            decodesWhole(equal.then(train(2, 100, 100)), NONE, 35);
        }
        decodesWhole(sixteen.then(x -> x.send(2, 0, 0x5555, 60)), 0x5555, 17);
        decodesToNothing(sixteen, 900, 550, 200, 200, 200, 200, 200, 200, 200, 200, 200, 200, 200, 200, 200);
    }

    @Says("(of a code, or a short one) if it has the same number of durations")
    static void protocols_fitsAShortFrameOnlyWithThreeDurations() {
        decodesShort(SHORT_1, 0, 900, 225, 100);
        decodesToNothing(SHORT_1, 900);
        decodesToNothing(SHORT_1, 900, 225, 100, 100, 100);
    }

    @Says("and each of them matches the duration there.")
    static void protocols_eachDurationMatchesByDistance() {
        eachMatches(DISTANCE_2, 1, 900, 450, 100, 100, 100, 300, 100);
        eachMatches(protocol(DISTANCE, 3, LOWEST, WHOLE), 1, 900, 450, 100, 300, 100, 100, 100, 100, 100);
    }

    @Says("and each of them matches the duration there.")
    static void protocols_eachDurationMatchesByWidth() {
        eachMatches(protocol(WIDTH, 3, HIGHEST, WHOLE), 2, 900, 450, 100, 100, 300, 100, 100);
        eachMatches(protocol(WIDTH, 1, HIGHEST, WHOLE), 1, 900, 450, 300);
    }

    @Says("and each of them matches the duration there.")
    static void protocols_eachDurationMatchesByPhase() {
        eachMatches(PHASE_2, 0, 900, 550, 100, 100, 100);
        eachMatches(PHASE_2, 1, 900, 550, 200);
        eachMatches(PHASE_2, 2, 900, 450, 100, 200, 100);
        eachMatches(PHASE_2, 3, 900, 450, 100, 100, 100);
        eachMatches(protocol(PHASE, 4, HIGHEST, WHOLE), 5, 900, 550, 200, 200, 200);
        eachMatches(protocol(PHASE, 4, HIGHEST, WHOLE), 13, 900, 450, 100, 100, 100, 200, 200);
    }

    /** With the tolerance 4 each duration may be off by just this, on both sides. */
    private static void eachMatches(Setup setup, int code, int... frame) {
        Setup narrow = setup.then(tolerance(4));
        for (int i = 0; i < frame.length; i++) {
            int most = frame[i] * 4 / 100;
            for (int sign = -1; sign <= 1; sign += 2) {
                int[] edge = frame.clone();
                edge[i] += sign * most;
                decodes(narrow, code, edge);
                edge[i] += sign;
                decodesToNothing(narrow, edge);
            }
        }
    }

    @Says("(of a code, or a short one)")
    static void protocols_eachDurationOfAShortFrameMatches() {
        Setup narrow = protocol(DISTANCE, 2, HIGHEST, SHORT, 900, 451, 100, 100, 300).then(tolerance(4));
        int[][] edges = {{864, 936}, {216, 234}, {96, 104}};
        for (int i = 0; i < 3; i++) {
            for (int side = 0; side < 2; side++) {
                int[] frame = {900, 225, 100};
                frame[i] = edges[i][side];
                decodesShort(narrow, 0, frame);
                frame[i] += 2 * side - 1;
                decodesToNothing(narrow, frame);
            }
        }
    }

    // ---- Protocols: what it decodes to

    @Says("- for the protocols by ascending numbers, to a protocol and a code whose frame it fits")
    static void protocols_theProtocolWithTheSmallestNumber() {
        Setup frame = train(2, 900, 450, 100, 100, 300);
        for (int before = 0; before < 6; before++) {
            Setup setup = times(before, WIDTH_3).then(times(6 - before, WIDTH_2)).then(frame);
            answers(setup, x -> x.frame(2, 0, 2), before);
            answers(setup, x -> x.frame(2, 0, 3), 1);
        }
        answers(protocol(WIDTH, 2, LOWEST, WHOLE).then(WIDTH_2).then(frame), x -> x.frame(2, 0, 3), 2);
        answers(times(6, WIDTH_3).then(frame), x -> x.frame(2, 0, 2), NONE);
    }

    @Says("(of several codes of the protocol, the one whose bits in the order of sending are "
            + "lexicographically smallest);")
    static void protocols_theSmallestCodeByDistanceAndWidth() {
        for (int order = 0; order < 2; order++) {
            Setup distance = protocol(DISTANCE, 3, order, WHOLE, 900, 450, 100, 100, 110);
            decodes(distance, 0, 900, 450, 100, 110, 100, 110, 100, 110, 100);
            Setup width = protocol(WIDTH, 3, order, WHOLE, 900, 450, 100, 110, 100);
            decodes(width, 0, 900, 450, 100, 100, 100, 100, 100);
            // B and C match from 88 to 120; only C does at 81, only B at 131
            decodes(width, 2, 900, 450, 120, 100, 81, 100, 88);
            decodes(width, order == HIGHEST ? 4 : 1, 900, 450, 87, 100, 88, 100, 131);
            decodes(width, order == HIGHEST ? 1 : 4, 900, 450, 121, 100, 88, 100, 87);
        }
    }

    @Says("(of several codes of the protocol, the one whose bits in the order of sending are "
            + "lexicographically smallest);")
    static void protocols_theSmallestCodeByPhase() {
        Setup wide = PHASE_2.then(tolerance(40));
        // S matches from 270 to 630, S + A from 330 to 770, A from 60 to 140, 2 A from 120 to 280
        decodes(wide, 0, 900, 330, 100, 130, 100);
        decodes(wide, 2, 900, 329, 100, 130, 100);
        decodes(wide, 3, 900, 329, 100, 119, 100);
        decodes(wide, 2, 900, 329, 100, 120, 100);
        decodes(wide, 2, 900, 500, 100, 141, 100);
        decodes(wide, 0, 900, 500, 100, 140, 100);
        decodes(wide, 1, 900, 500, 120);
        decodesToNothing(wide, 900, 500, 119);
        decodesToNothing(wide, 900, 329, 120);
        decodesToNothing(wide, 900, 631, 100, 141, 100);
        Setup lowest = protocol(PHASE, 2, LOWEST, WHOLE).then(tolerance(40));
        decodes(lowest, 1, 900, 329, 100, 130, 100);
        decodes(lowest, 2, 900, 500, 120);
        Setup four = protocol(PHASE, 4, HIGHEST, WHOLE).then(tolerance(40));
        // seven durations: 0001, 0010, 0011, 0100, .. are possible, 0000 has nine
        decodes(four, 1, 900, 500, 130, 130, 130, 130, 130);
        decodes(four, 5, 900, 500, 130, 130, 130);
        decodes(four, 0, 900, 500, 130, 130, 130, 130, 130, 130, 130);
    }

    @Says("- to the short frame of the protocol with the smallest number that has the repetition 1 "
            + "and whose short frame it fits.")
    static void protocols_theShortFrameOfTheSmallestNumber() {
        for (int before = 0; before < 6; before++) {
            Setup other = protocol(DISTANCE, 2, HIGHEST, SHORT, 9000, 450, 100, 100, 300);
            decodesShort(times(before, other).then(times(6 - before, SHORT_1)), before, 900, 225, 100);
        }
    }

    @Says("that has the repetition 1 and whose short frame it fits.")
    static void protocols_onlyWithTheRepetition1() {
        decodesToNothing(protocol(DISTANCE, 2, HIGHEST, WHOLE), 900, 225, 100);
        decodesToNothing(protocol(DISTANCE, 2, HIGHEST, TOGGLED), 900, 225, 100);
        decodesShort(protocol(DISTANCE, 2, HIGHEST, TOGGLED).then(DISTANCE_2).then(SHORT_1), 2, 900, 225, 100);
        for (int kind = 0; kind < 3; kind++) {
            decodesShort(protocol(kind, 2, HIGHEST, SHORT), 0, 900, 225, 100);
        }
    }

    @Says("It decodes, by the first of these that is possible:")
    static void protocols_aCodeOfAnyProtocolGoesBeforeAShortFrame() {
        // C matches from 88 to 132, the A of the short frame from 80 to 120
        Setup code = protocol(WIDTH, 1, HIGHEST, WHOLE, 900, 225, 100, 300, 110);
        PulseRemote x = made(times(5, SHORT_1).then(code).then(train(2, 900, 225, 100)));
        due("the protocol", x.frame(2, 0, 2), 5);
        due("the code", x.frame(2, 0, 3), 1);
        due("whether it is short", x.frame(2, 0, 4), 0);
        decodesShort(times(5, SHORT_1).then(code), 0, 900, 225, 87);
    }

    @Says("Otherwise it decodes to nothing.")
    static void protocols_otherwiseToNothing() {
        decodesToNothing(NEW, 900);
        decodesToNothing(NEW, 900, 450, 100, 100, 100);
        decodesToNothing(SHORT_1, 900, 450, 100);
        decodesToNothing(SHORT_1, 900, 450, 100, 170, 100, 300, 100);
        decodesWhole(DISTANCE_2.then(PHASE_2).then(SHORT_1).then(longTrain(2, 199, 100)), NONE, 199);
    }

    @Says("Otherwise it decodes to nothing.")
    static void protocols_toNothingAlsoBehindAFrameThatDecodes() {
        for (int size : new int[] {1, 33, 35, 37, 101}) {
            PulseRemote x = made(SHORT_1.then(train(2, 900, 450, 100, 100, 100, 300, 100, 20000))
                    .then(longTrain(2, size, 100)));
            due("the code of frame 0", x.frame(2, 0, 3), 1);
            for (int what = 2; what <= 4; what++) {
                due("property " + what + " of frame 1", x.frame(2, 1, what), NONE);
            }
            due("the deviation of frame 0", x.deviation(2, 0), 0);
            due("the deviation of frame 1", x.deviation(2, 1), NONE);
            due("presses", x.pressCount(2), 1);
            due("the count", x.press(2, 0, 2), 1);
            due("strays", x.strayCount(2), 1);
            due("the tolerance that is needed", x.neededTolerance(2), NONE);
        }
    }

    // ---- 12: setTolerance

    @Says("- `tolerance`: 0 to 40")
    static void promise12_toleranceFrom0To40() {
        between(RICH, (x, tolerance) -> x.setTolerance(tolerance), 0, 15, 40, 15);
    }

    @Says("Returns the previous tolerance")
    static void promise12_answersThePreviousTolerance() {
        PulseRemote x = new PulseRemote();
        due("at first", x.setTolerance(40), 20);
        due("after 40", x.setTolerance(0), 40);
        due("after a refused one", x.setTolerance(41), INVALID);
        due("after 0", x.setTolerance(0), 0);
        due("after the same", x.setTolerance(1), 0);
    }

    @Says("Sets the tolerance.")
    static void promise12_theToleranceCountsForTrainsThatAreThere() {
        PulseRemote x = made(WIDTH_2.then(train(2, 900, 450, 100, 100, 345)));
        due("with 20", x.frame(2, 0, 3), 1);
        x.setTolerance(15);
        due("with 15", x.frame(2, 0, 3), 1);
        x.setTolerance(14);
        due("with 14", x.frame(2, 0, 3), NONE);
        x.setTolerance(40);
        due("with 40", x.frame(2, 0, 3), 1);
    }

    @Says("INVALID_ARGUMENT if tolerance is out of range.")
    static void promise12_aRefusedToleranceChangesNothing() {
        refused(RICH, x -> x.setTolerance(-1), INVALID);
        refused(RICH, x -> x.setTolerance(41), INVALID);
        refused(RICH, x -> x.setTolerance(100), INVALID);
    }

    // ---- 25: frame

    @Says("- `slot`: 0 to 2")
    static void promise25_slotFrom0To2() {
        slots((x, slot) -> x.frame(slot, 0, 1), 11, 7, 3);
    }

    @Says("Returns a property of a frame. - `slot`: 0 to 2 - `frame`: number of a frame")
    static void promise25_theFirstAndTheLastFrame() {
        answers(RICH, x -> x.frame(0, 0, 0), 0);
        answers(RICH, x -> x.frame(0, 2, 0), 16);
        refused(RICH, x -> x.frame(0, 3, 0), NONE);
        answers(longTrain(0, 200, 10001), x -> x.frame(0, 99, 0), 198);
        refused(longTrain(0, 200, 10001), x -> x.frame(0, 100, 0), NONE);
    }

    @Says("- `what`: 0 the index of its first duration, 1 its number of durations, 2 the protocol to which it "
            + "decodes, 3 the code, 4 1 if it is a short frame and 0 if not Returns the property")
    static void promise25_whatFrom0To4() {
        between(RICH, (x, what) -> x.frame(0, 1, what), 0, 12, 4, 1);
        int[][] properties = {{0, 11, 0, 5, 0}, {12, 3, 0, NONE, 1}, {16, 11, 0, 9, 0}};
        for (int frame = 0; frame < 3; frame++) {
            for (int what = 0; what < 5; what++) {
                due("frame " + frame + ", " + what, made(RICH).frame(0, frame, what), properties[frame][what]);
            }
        }
    }

    @Says("2 the protocol to which it decodes, 3 the code")
    static void promise25_readAnewAfterEachChange() {
        readAnew(RICH, x -> x.setTolerance(0));
        readAnew(RICH, x -> x.clear(0));
        readAnew(RICH, x -> x.distort(0, 30, 0));
        readAnew(RICH, x -> x.setLengths(0, 1800, 450, 100, 100, 300));
        readAnew(RICH, x -> x.setGap(60000));
        readAnew(RICH, x -> x.setHold(60000));
        readAnew(RICH.then(x -> x.clearText()), x -> x.load());
        readAnew(RICH, x -> x.overlay(2, 0, 50));
        readAnew(RICH.then(times(3, x -> x.undo())), times(3, x -> x.undo()));
    }

    @Says("INVALID_ARGUMENT if slot or what is out of range, or frame is negative")
    static void promise25_aNegativeFrame() {
        refused(RICH, x -> x.frame(0, -1, 0), INVALID);
        refused(RICH, x -> x.frame(0, Integer.MIN_VALUE, 4), INVALID);
        refused(NEW, x -> x.frame(0, -1, 0), INVALID);
    }

    @Says("NONE if there is no such frame;")
    static void promise25_noSuchFrame() {
        for (int what = 0; what < 5; what++) {
            int of = what;
            refused(NEW, x -> x.frame(0, 0, of), NONE);
            refused(RICH, x -> x.frame(2, 1, of), NONE);
            refused(RICH, x -> x.frame(2, Integer.MAX_VALUE, of), NONE);
        }
        refused(train(0, 5, 60000), x -> x.frame(0, 1, 0), NONE);
    }

    @Says("NONE for 2 to 4 if it decodes to nothing")
    static void promise25_itDecodesToNothing() {
        answers(RICH, x -> x.frame(2, 0, 0), 0);
        answers(RICH, x -> x.frame(2, 0, 1), 3);
        refused(RICH, x -> x.frame(2, 0, 2), NONE);
        refused(RICH, x -> x.frame(2, 0, 3), NONE);
        refused(RICH, x -> x.frame(2, 0, 4), NONE);
    }

    @Says("and for 3 if it is a short frame.")
    static void promise25_aShortFrameHasNoCode() {
        refused(RICH, x -> x.frame(0, 1, 3), NONE);
        answers(RICH, x -> x.frame(0, 1, 2), 0);
        answers(RICH, x -> x.frame(0, 1, 4), 1);
    }

    @Says("INVALID_ARGUMENT if slot or what is out of range, or frame is negative; NONE if there is no such frame;")
    static void promise25_aWrongArgumentGoesBeforeNone() {
        refused(RICH, x -> x.frame(0, 99, 5), INVALID);
        refused(RICH, x -> x.frame(0, 99, -1), INVALID);
        refused(RICH, x -> x.frame(3, 99, 0), INVALID);
        refused(RICH, x -> x.frame(2, 0, 5), INVALID);
        refused(NEW, x -> x.frame(0, 0, 5), INVALID);
    }

    // ---- 26: deviation

    /** The deviation of a train of this one frame. */
    private static void deviates(Setup setup, int due, int... frame) {
        answers(setup.then(train(2, frame)), x -> x.deviation(2, 0), due);
    }

    @Says("the greatest 1000 * |d - n| / n, rounded down, of all its durations d")
    static void promise26_theGreatestOfAllDurations() {
        int[] exact = {900, 450, 100, 100, 100, 300, 100};
        for (int i = 0; i < exact.length; i++) {
            int[] frame = {909, 447, 101, 99, 101, 302, 99};
            deviates(DISTANCE_2, 10, frame);
            frame[i] = exact[i] + exact[i] / 10;
            deviates(DISTANCE_2, 100, frame);
            frame[i] = exact[i] - exact[i] / 10;
            deviates(DISTANCE_2, 100, frame);
        }
    }

    @Says("rounded down, of all its durations d")
    static void promise26_roundedDown() {
        deviates(DISTANCE_2, 1, 901, 450, 100, 100, 100, 300, 100);
        deviates(DISTANCE_2, 1, 899, 450, 100, 100, 100, 300, 100);
        deviates(DISTANCE_2, 3, 900, 450, 100, 100, 100, 301, 100);
        deviates(DISTANCE_2, 6, 900, 450, 100, 100, 100, 298, 100);
        deviates(DISTANCE_2, 197, 900, 539, 100, 100, 100, 241, 100);
        deviates(DISTANCE_2.then(tolerance(40)), 396, 900, 450, 100, 100, 100, 419, 100);
        Setup longest = protocol(WIDTH, 1, HIGHEST, WHOLE, 20000, 20000, 50, 20000, 50).then(x -> x.setGap(60000));
        deviates(longest, 0, 20019, 20000, 20000);
        deviates(longest, 1, 20020, 20000, 20000);
        deviates(longest, 0, 19981, 20000, 20000);
    }

    @Says("Returns the worst deviation of a frame that decodes")
    static void promise26_fromNothingToTheTolerance() {
        deviates(DISTANCE_2, 0, 900, 450, 100, 100, 100, 300, 100);
        deviates(DISTANCE_2, 200, 1080, 450, 100, 100, 100, 300, 100);
        deviates(DISTANCE_2.then(tolerance(40)), 400, 540, 450, 100, 100, 100, 300, 100);
        deviates(DISTANCE_2.then(tolerance(40)), 400, 900, 450, 100, 140, 100, 300, 100);
    }

    @Says("where n is the length that d matches.")
    static void promise26_theLengthsOfTheCodeToWhichItDecodes() {
        // 109 is nearer to C, but the smallest code counts
        deviates(protocol(WIDTH, 1, HIGHEST, WHOLE, 900, 450, 100, 100, 110), 90, 900, 450, 109);
        deviates(protocol(WIDTH, 1, HIGHEST, WHOLE, 900, 450, 100, 200, 110), 9, 900, 450, 109);
        deviates(PHASE_2.then(tolerance(40)), 170, 900, 550, 100, 117, 100);
        deviates(PHASE_2.then(tolerance(4)), 40, 900, 550, 208);
        deviates(PHASE_2.then(tolerance(4)), 40, 900, 528, 200);
    }

    @Says("where n is the length that d matches.")
    static void promise26_theLengthsOfAShortFrame() {
        deviates(protocol(DISTANCE, 2, HIGHEST, SHORT, 900, 451, 100, 100, 300), 4, 900, 226, 100);
        deviates(protocol(DISTANCE, 2, HIGHEST, SHORT, 900, 451, 100, 100, 300), 0, 900, 225, 100);
        deviates(protocol(PHASE, 2, HIGHEST, SHORT), 200, 900, 225, 80);
    }

    @Says("- `slot`: 0 to 2")
    static void promise26_slotFrom0To2() {
        slots((x, slot) -> x.deviation(slot, 0), 0, 0, NONE);
    }

    @Says("- `frame`: number of a frame Returns the deviation")
    static void promise26_theFirstAndTheLastFrame() {
        Setup three = WIDTH_2.then(train(2, 909, 450, 100, 100, 100, 10001, 7, 10001, 918, 450, 100, 100, 100));
        answers(three, x -> x.deviation(2, 0), 10);
        answers(three, x -> x.deviation(2, 2), 20);
        refused(three, x -> x.deviation(2, 3), NONE);
    }

    @Says("INVALID_ARGUMENT if slot is out of range, or frame is negative")
    static void promise26_aNegativeFrame() {
        refused(RICH, x -> x.deviation(0, -1), INVALID);
        refused(RICH, x -> x.deviation(0, Integer.MIN_VALUE), INVALID);
        refused(NEW, x -> x.deviation(0, -1), INVALID);
        refused(RICH, x -> x.deviation(3, 99), INVALID);
    }

    @Says("NONE if there is no such frame, or it decodes to nothing.")
    static void promise26_noSuchFrame() {
        refused(NEW, x -> x.deviation(0, 0), NONE);
        refused(RICH, x -> x.deviation(0, 3), NONE);
        refused(RICH, x -> x.deviation(0, Integer.MAX_VALUE), NONE);
        refused(WIDTH_2.then(train(0, 900, 450, 100, 100, 100, 60000)), x -> x.deviation(0, 1), NONE);
    }

    @Says("NONE if there is no such frame, or it decodes to nothing.")
    static void promise26_itDecodesToNothing() {
        refused(RICH, x -> x.deviation(2, 0), NONE);
        deviates(WIDTH_2, 200, 900, 450, 100, 100, 120);
        deviates(WIDTH_2, NONE, 900, 450, 100, 100, 121);
    }

    // ---- 30: neededTolerance

    /** The tolerance that is needed for this train, with DISTANCE_2 and its short frame. */
    private static void needs(int due, int... train) {
        answers(SHORT_1.then(train(2, train)), x -> x.neededTolerance(2), due);
    }

    @Says("Returns the least tolerance, 0 to 40, with which all frames of a train would decode")
    static void promise30_theLeastTolerance() {
        for (int tolerance = 0; tolerance <= 40; tolerance++) {
            needs(tolerance, 900 + 9 * tolerance, 450, 100, 100, 100, 300, 100);
            needs(tolerance, 900, 450, 100, 100, 100, 300 - 3 * tolerance, 100);
            if (tolerance > 0) {
                needs(tolerance, 900 - 9 * tolerance + 8, 450, 100, 100, 100, 300, 100);
                needs(tolerance, 900, 450, 100, 100, 100, 300 + 3 * tolerance - 2, 100);
            }
        }
    }

    @Says("0 to 40, with which all frames of a train would decode")
    static void promise30_noneAbove40() {
        needs(40, 1260, 450, 100, 100, 100, 300, 100);
        needs(NONE, 1261, 450, 100, 100, 100, 300, 100);
        needs(40, 900, 450, 60, 100, 100, 300, 100);
        needs(NONE, 900, 450, 59, 100, 100, 300, 100);
    }

    @Says("with which all frames of a train would decode to a protocol and a code, or to a short frame.")
    static void promise30_ofAllFrames() {
        needs(7, 900, 450, 107, 100, 100, 300, 100, 20000, 900, 450, 106, 100, 100, 300, 100);
        needs(9, 900, 450, 107, 100, 100, 300, 100, 20000, 900, 450, 109, 100, 100, 300, 100);
        needs(9, 900, 450, 107, 100, 100, 300, 100, 20000, 900, 450, 109, 100, 100, 300, 100, 20000);
        needs(NONE, 900, 450, 100, 100, 100, 300, 100, 20000, 7, 20000, 900, 450, 100, 100, 100, 300, 100);
        needs(NONE, 7, 20000, 900, 450, 100, 100, 100, 300, 100);
        needs(NONE, 900, 450, 100, 100, 100, 300, 100, 20000, 7);
    }

    @Says("with which all frames of a train would decode to a protocol and a code")
    static void promise30_toAnyProtocol() {
        // 990 is 10 percent off protocol 0, and 1 percent off protocol 1
        Setup two = protocol(WIDTH, 1, HIGHEST, WHOLE)
                .then(protocol(WIDTH, 1, HIGHEST, WHOLE, 1000, 450, 100, 100, 300));
        answers(two.then(train(2, 990, 450, 100)), x -> x.neededTolerance(2), 1);
        answers(two.then(train(2, 980, 450, 100)), x -> x.neededTolerance(2), 2);
        answers(two.then(train(2, 910, 450, 100)), x -> x.neededTolerance(2), 2);
        answers(two.then(train(2, 990, 450, 100, 20000, 909, 450, 100)), x -> x.neededTolerance(2), 1);
    }

    @Says("or to a short frame.")
    static void promise30_alsoToAShortFrame() {
        needs(0, 900, 225, 100);
        needs(12, 900, 225, 112);
        needs(NONE, 900, 225, 141);
        answers(DISTANCE_2.then(train(2, 900, 225, 100)), x -> x.neededTolerance(2), NONE);
    }

    @Says("with which all frames of a train would decode")
    static void promise30_aTrainWithoutFramesNeedsNone() {
        answers(DISTANCE_2, x -> x.neededTolerance(0), 0);
        answers(NEW, x -> x.neededTolerance(0), 0);
    }

    @Says("Returns the least tolerance, 0 to 40, with which all frames of a train would decode")
    static void promise30_whateverTheToleranceIs() {
        for (int tolerance : new int[] {0, 20, 40}) {
            Setup setup = DISTANCE_2.then(tolerance(tolerance)).then(train(2, 900, 450, 100, 100, 100, 300, 125));
            answers(setup, x -> x.neededTolerance(2), 25);
            unchangedBy(setup, x -> x.neededTolerance(2));
        }
    }

    @Says("- `slot`: 0 to 2")
    static void promise30_slotFrom0To2() {
        slots((x, slot) -> x.neededTolerance(slot), 0, 0, NONE);
    }

    @Says("Returns the tolerance; INVALID_ARGUMENT if slot is out of range; NONE if there is none.")
    static void promise30_noneIfThereIsNone() {
        refused(RICH, x -> x.neededTolerance(2), NONE);
        refused(train(0, 900), x -> x.neededTolerance(0), NONE);
        refused(RICH, x -> x.neededTolerance(3), INVALID);
        refused(RICH, x -> x.neededTolerance(-1), INVALID);
    }
}
