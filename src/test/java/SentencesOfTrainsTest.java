/** The section Trains, and the promises that change or tell a train, but for overlay(). */
public final class SentencesOfTrainsTest extends Sentences {
    /** Train 0 of 200 durations. */
    private static final Setup FULL = longTrain(0, 200, 500);
    /** By distance: a frame of 16 bits has 35 durations, so that sending adds 36. */
    private static final Setup LONG_FRAMES = protocol(DISTANCE, 16, HIGHEST, WHOLE);

    public static void main(String[] args) {
        runAll(SentencesOfTrainsTest.class);
    }

    // ---- Trains

    @Says("A train is a sequence of durations, 1 to 60000 each")
    static void trains_durationsAreFrom1To60000() {
        PulseRemote x = made(train(1, 1, 60000, 60000, 1));
        dueTrain(x, 1, 1, 60000, 60000, 1);
        refused(RICH, y -> y.append(2, 0), INVALID);
        refused(RICH, y -> y.append(2, 60001), INVALID);
    }

    @Says("that are marks and spaces alternately; the first one (number 0) is a mark")
    static void trains_theFirstDurationIsAMarkAndTheSecondASpace() {
        answers(train(0, 60000), x -> x.frame(0, 0, 1), 1);
        answers(train(0, 60000, 60000), x -> x.frame(0, 0, 1), 1);
        answers(train(0, 5, 5, 60000, 5, 60000), x -> x.frameCount(0), 1);
        answers(train(0, 5, 60000, 5, 60000, 5), x -> x.frameCount(0), 3);
        refused(train(0, 5, 5), x -> x.overlay(0, 1, 0), STATE);
    }

    @Says("A train has at most 200 durations.")
    static void trains_atMost200Durations() {
        answers(longTrain(0, 199, 500), x -> x.append(0, 60), 200);
        refused(FULL, x -> x.append(0, 60), CAPACITY);
        answers(FULL, x -> x.length(0), 200);
        answers(FULL, x -> x.append(1, 60), 1);
    }

    @Says("There are three slots for trains, 0 to 2")
    static void trains_threeSlots() {
        PulseRemote x = made(train(0, 11, 12, 13).then(train(1, 21)).then(train(2, 31, 32)));
        dueTrain(x, 0, 11, 12, 13);
        dueTrain(x, 1, 21);
        dueTrain(x, 2, 31, 32);
        due("slot -1", x.length(-1), INVALID);
        due("slot 3", x.length(3), INVALID);
    }

    @Says("which are empty at first (a train without durations)")
    static void trains_emptyAtFirst() {
        for (int slot = 0; slot < 3; slot++) {
            PulseRemote x = new PulseRemote();
            due("length", x.length(slot), 0);
            due("duration 0", x.duration(slot, 0), NONE);
            due("what clear() takes away", x.clear(slot), 0);
        }
    }

    @Says("The frames of a train are the parts between its spaces that are longer than the gap, 1000 to 60000")
    static void trains_onlySpacesLongerThanTheGapPartFrames() {
        for (int gap : new int[] {1000, 1001, 30000, 59999, 60000}) {
            Setup set = x -> x.setGap(gap);
            answers(set.then(train(0, 5, gap, 5)), x -> x.frameCount(0), 1);
            answers(set.then(train(0, 5, gap, 5)), x -> x.frame(0, 0, 1), 3);
            if (gap < 60000) {
                answers(set.then(train(0, 5, gap + 1, 5)), x -> x.frameCount(0), 2);
                answers(set.then(train(0, 5, gap + 1, 5)), x -> x.frame(0, 0, 1), 1);
            }
        }
    }

    @Says("(at first 10000); such a space")
    static void trains_theGapIsAtFirst10000() {
        answers(train(0, 5, 10000, 5), x -> x.frameCount(0), 1);
        answers(train(0, 5, 10001, 5), x -> x.frameCount(0), 2);
        answers(NEW, x -> x.setGap(1000), 10000);
    }

    @Says("such a space, and a space at the end of the train, belongs to no frame")
    static void trains_aSpaceBetweenFramesBelongsToNone() {
        PulseRemote x = made(train(0, 5, 6, 7, 10001, 8, 20000, 9, 1, 2));
        int[][] starts = {{0, 3}, {4, 1}, {6, 3}};
        for (int frame = 0; frame < 3; frame++) {
            due("the start of frame " + frame, x.frame(0, frame, 0), starts[frame][0]);
            due("the size of frame " + frame, x.frame(0, frame, 1), starts[frame][1]);
        }
    }

    @Says("and a space at the end of the train, belongs to no frame")
    static void trains_aSpaceAtTheEndBelongsToNoFrame() {
        for (int space : new int[] {1, 10000, 10001, 60000}) {
            PulseRemote x = made(train(0, 5, 6, 7, space));
            due("frames", x.frameCount(0), 1);
            due("the size of frame 0", x.frame(0, 0, 1), 3);
            due("frame 1", x.frame(0, 1, 0), NONE);
        }
    }

    @Says("So each frame begins and ends with a mark.")
    static void trains_eachFrameBeginsAndEndsWithAMark() {
        PulseRemote x = made(train(0, 5, 20000, 5, 5, 5, 20000, 5, 20000, 5, 5));
        for (int frame = 0; frame < 4; frame++) {
            due("the start modulo 2", x.frame(0, frame, 0) % 2, 0);
            due("the size modulo 2", x.frame(0, frame, 1) % 2, 1);
        }
        due("frames", x.frameCount(0), 4);
    }

    @Says("The frames are numbered from 0.")
    static void trains_framesAreNumberedFrom0() {
        PulseRemote x = made(train(0, 5, 20000, 5, 20000, 5));
        due("frame 0", x.frame(0, 0, 0), 0);
        due("frame 1", x.frame(0, 1, 0), 2);
        due("frame 2", x.frame(0, 2, 0), 4);
        due("frame 3", x.frame(0, 3, 0), NONE);
    }

    @Says("(A train without durations has no frames.)")
    static void trains_aTrainWithoutDurationsHasNoFrames() {
        PulseRemote x = made(train(0, 5, 6, 7).then(y -> y.clear(0)));
        due("frames", x.frameCount(0), 0);
        due("frame 0", x.frame(0, 0, 0), NONE);
        due("its deviation", x.deviation(0, 0), NONE);
        due("presses", x.pressCount(0), 0);
        due("strays", x.strayCount(0), 0);
        due("clusters", x.clusters(0, 0), STATE);
    }

    @Says("A duration d matches a length n if 100 * |d - n| is at most n times the tolerance, 0 to 40")
    static void trains_aDurationMatchesWithinTheToleranceOnBothSides() {
        // tolerance, the least and the greatest header mark that match 900, and space that match 450
        int[][] edges = {{0, 900, 900, 450, 450}, {1, 891, 909, 446, 454}, {15, 765, 1035, 383, 517},
            {20, 720, 1080, 360, 540}, {33, 603, 1197, 302, 598}, {40, 540, 1260, 270, 630}};
        for (int[] e : edges) {
            Setup set = protocol(WIDTH, 1, HIGHEST, WHOLE).then(x -> x.setTolerance(e[0]));
            answers(set.then(train(0, e[1], e[3], 100)), x -> x.frame(0, 0, 3), 0);
            answers(set.then(train(0, e[2], e[4], 100)), x -> x.frame(0, 0, 3), 0);
            answers(set.then(train(0, e[1] - 1, 450, 100)), x -> x.frame(0, 0, 3), NONE);
            answers(set.then(train(0, e[2] + 1, 450, 100)), x -> x.frame(0, 0, 3), NONE);
            answers(set.then(train(0, 900, e[3] - 1, 100)), x -> x.frame(0, 0, 3), NONE);
            answers(set.then(train(0, 900, e[4] + 1, 100)), x -> x.frame(0, 0, 3), NONE);
        }
    }

    @Says("(at first 20).")
    static void trains_theToleranceIsAtFirst20() {
        Setup set = protocol(WIDTH, 1, HIGHEST, WHOLE);
        answers(set.then(train(0, 1080, 450, 80)), x -> x.frame(0, 0, 3), 0);
        answers(set.then(train(0, 1081, 450, 80)), x -> x.frame(0, 0, 3), NONE);
        answers(set.then(train(0, 1080, 450, 79)), x -> x.frame(0, 0, 3), NONE);
        answers(NEW, x -> x.setTolerance(0), 20);
    }

    // ---- 10: setGap

    @Says("- `gap`: 1000 to 60000")
    static void promise10_gapFrom1000To60000() {
        between(RICH, (x, gap) -> x.setGap(gap), 1000, 9000, 60000, 9000);
    }

    @Says("Returns the previous gap")
    static void promise10_answersThePreviousGap() {
        PulseRemote x = new PulseRemote();
        due("at first", x.setGap(60000), 10000);
        due("after 60000", x.setGap(1000), 60000);
        due("after a refused one", x.setGap(999), INVALID);
        due("after 1000", x.setGap(1000), 1000);
        due("after the same", x.setGap(1000), 1000);
    }

    @Says("Sets the gap.")
    static void promise10_theGapCountsForTrainsThatAreThere() {
        PulseRemote x = made(train(0, 5, 1001, 5, 1000, 5));
        due("frames", x.frameCount(0), 1);
        x.setGap(1000);
        due("frames", x.frameCount(0), 2);
        x.setGap(1001);
        due("frames", x.frameCount(0), 1);
    }

    @Says("INVALID_ARGUMENT if gap is out of range.")
    static void promise10_aRefusedGapChangesNothing() {
        refused(RICH, x -> x.setGap(999), INVALID);
        refused(RICH, x -> x.setGap(60001), INVALID);
        refused(RICH, x -> x.setGap(0), INVALID);
        refused(RICH, x -> x.setGap(-1000), INVALID);
    }

    // ---- 16: append

    @Says("Appends a duration to a train. This changes a train.")
    static void promise16_appendsAtTheEndOfThatTrainAlone() {
        PulseRemote x = made(train(1, 7).then(train(0, 3, 2)));
        x.append(0, 1);
        dueTrain(x, 0, 3, 2, 1);
        dueTrain(x, 1, 7);
        dueTrain(x, 2);
    }

    @Says("- `slot`: 0 to 2")
    static void promise16_slotFrom0To2() {
        slots((x, slot) -> x.append(slot, 60), 28, 16, 4);
    }

    @Says("- `duration`: 1 to 60000")
    static void promise16_durationFrom1To60000() {
        between(RICH, (x, duration) -> x.append(2, duration), 1, 4, 60000, 4);
        dueTrain(made(train(0, 1, 60000)), 0, 1, 60000);
    }

    @Says("INVALID_ARGUMENT if an argument is out of range")
    static void promise16_bothArgumentsOutOfRange() {
        refused(RICH, x -> x.append(3, 0), INVALID);
        refused(RICH, x -> x.append(-1, 60001), INVALID);
    }

    @Says("Returns the number of durations then")
    static void promise16_answersTheNumberOfDurations() {
        PulseRemote x = new PulseRemote();
        for (int size = 1; size <= 200; size++) {
            due("the number", x.append(2, size), size);
        }
        due("the last one", x.duration(2, 199), 200);
    }

    @Says("CAPACITY_EXCEEDED if there are 200.")
    static void promise16_noRoomWith200() {
        answers(longTrain(2, 199, 60), x -> x.append(2, 1), 200);
        refused(longTrain(2, 200, 60), x -> x.append(2, 1), CAPACITY);
        refused(FULL, x -> x.append(0, 60000), CAPACITY);
    }

    @Says("INVALID_ARGUMENT if an argument is out of range; CAPACITY_EXCEEDED if there are 200.")
    static void promise16_aWrongArgumentGoesBeforeNoRoom() {
        refused(FULL, x -> x.append(0, 0), INVALID);
        refused(FULL, x -> x.append(0, 60001), INVALID);
    }

    // ---- 17: send

    @Says("Appends the frame of a code to a train.")
    static void promise17_toThatTrainAlone() {
        PulseRemote x = made(protocol(WIDTH, 1, HIGHEST, WHOLE).then(train(0, 7)).then(train(2, 9)));
        x.send(2, 0, 1, 60);
        dueTrain(x, 0, 7);
        dueTrain(x, 1);
        dueTrain(x, 2, 9, 60, 900, 450, 300);
    }

    @Says("This changes a train.")
    static void promise17_undoTakesTheWholeFrameAway() {
        PulseRemote x = made(protocol(WIDTH, 1, HIGHEST, WHOLE).then(train(0, 7)).then(y -> y.send(0, 0, 1, 60)));
        due("undo()", x.undo(), 3);
        dueTrain(x, 0, 7);
    }

    @Says("Returns the number of durations then")
    static void promise17_answersTheNumberOfDurations() {
        answers(LONG_FRAMES, x -> x.send(0, 0, 5, 60), 35);
        answers(LONG_FRAMES.then(train(0, 7)), x -> x.send(0, 0, 5, 60), 37);
        answers(LONG_FRAMES.then(longTrain(0, 163, 60)), x -> x.send(0, 0, 5, 60), 199);
    }

    @Says("If the train is not empty, a space of the given length is put before it.")
    static void promise17_noSpaceInAnEmptyTrain() {
        PulseRemote x = made(protocol(DISTANCE, 1, HIGHEST, WHOLE));
        due("the number", x.send(0, 0, 1, 777), 5);
        dueTrain(x, 0, 900, 450, 100, 300, 100);
    }

    @Says("If the train is not empty, a space of the given length is put before it.")
    static void promise17_theSpaceBehindATrainThatIsNotEmpty() {
        for (int space : new int[] {1, 777, 60000}) {
            PulseRemote x = made(protocol(DISTANCE, 1, HIGHEST, WHOLE).then(train(0, 8)));
            due("the number", x.send(0, 0, 1, space), 7);
            dueTrain(x, 0, 8, space, 900, 450, 100, 300, 100);
        }
    }

    @Says("If the train is not empty, a space of the given length is put before it.")
    static void promise17_noSpaceInATrainThatWasMadeEmpty() {
        PulseRemote x = made(protocol(WIDTH, 1, HIGHEST, WHOLE).then(train(0, 8, 9, 8)).then(y -> y.clear(0)));
        due("the number", x.send(0, 0, 1, 777), 3);
        dueTrain(x, 0, 900, 450, 300);
    }

    @Says("- `slot`: 0 to 2")
    static void promise17_slotFrom0To2() {
        between(RICH, (x, slot) -> x.send(slot, 0, 5, 60), 0, 39, 2, 15);
        answers(RICH, x -> x.send(1, 0, 5, 60), 27);
    }

    @Says("- `protocol`: number of a protocol")
    static void promise17_protocolFrom0ToTheLast() {
        between(RICH, (x, protocol) -> x.send(2, protocol, 5, 60), 0, 15, 2, 11);
        refused(train(0, 8), x -> x.send(0, 0, 0, 60), INVALID);
    }

    @Says("- `code`: a code")
    static void promise17_aCodeHasAsManyBitsAsTheProtocol() {
        Setup bits = protocol(DISTANCE, 1, HIGHEST, WHOLE).then(LONG_FRAMES);
        between(bits, (x, code) -> x.send(0, 0, code, 60), 0, 5, 1, 5);
        between(bits, (x, code) -> x.send(0, 1, code, 60), 0, 35, 65535, 35);
        between(RICH, (x, code) -> x.send(2, 0, code, 60), 0, 15, 15, 15);
    }

    @Says("or the code does not have so few bits")
    static void promise17_aCodeWithMoreBitsIsRefused() {
        refused(RICH, x -> x.send(2, 1, 8, 60), INVALID);
        refused(RICH, x -> x.send(2, 2, 32, 60), INVALID);
        refused(RICH, x -> x.send(2, 2, -1, 60), INVALID);
        answers(RICH, x -> x.send(2, 2, 31, 60), 15);
        refused(LONG_FRAMES, x -> x.send(2, 0, 65536, 60), INVALID);
    }

    @Says("- `space`: 1 to 60000")
    static void promise17_spaceFrom1To60000() {
        between(RICH, (x, space) -> x.send(0, 1, 5, space), 1, 35, 60000, 35);
    }

    @Says("- `space`: 1 to 60000")
    static void promise17_spaceIsInRangeAlsoWhereNoneIsPut() {
        between(LONG_FRAMES, (x, space) -> x.send(0, 0, 5, space), 1, 35, 60000, 35);
    }

    @Says("ILLEGAL_STATE if the train ends with a space")
    static void promise17_refusedBehindASpace() {
        refused(RICH.then(train(2, 8)), x -> x.send(2, 0, 5, 60), STATE);
        refused(LONG_FRAMES.then(train(0, 8, 9)), x -> x.send(0, 0, 5, 60), STATE);
        answers(LONG_FRAMES.then(train(0, 8, 9, 8)), x -> x.send(0, 0, 5, 60), 39);
        answers(LONG_FRAMES.then(train(0, 8, 9)), x -> x.send(1, 0, 5, 60), 35);
    }

    @Says("CAPACITY_EXCEEDED if there would be more than 200.")
    static void promise17_noRoomFor201() {
        answers(LONG_FRAMES.then(longTrain(0, 163, 60)), x -> x.send(0, 0, 5, 60), 199);
        refused(LONG_FRAMES.then(longTrain(0, 165, 60)), x -> x.send(0, 0, 5, 60), CAPACITY);
        refused(LONG_FRAMES.then(longTrain(0, 199, 60)), x -> x.send(0, 0, 5, 60), CAPACITY);
        Setup phase = protocol(PHASE, 2, HIGHEST, WHOLE);
        answers(phase.then(longTrain(0, 195, 60)), x -> x.send(0, 0, 1, 60), 199);
        refused(phase.then(longTrain(0, 195, 60)), x -> x.send(0, 0, 0, 60), CAPACITY);
    }

    @Says("INVALID_ARGUMENT if an argument is out of range, or the code does not have so few bits; "
            + "ILLEGAL_STATE if the train ends with a space; CAPACITY_EXCEEDED if there would be more than 200.")
    static void promise17_theErrorThatIsNamedFirst() {
        Setup both = LONG_FRAMES.then(longTrain(0, 200, 60));
        refused(both, x -> x.send(0, 0, 65536, 60), INVALID);
        refused(both, x -> x.send(0, 1, 5, 60), INVALID);
        refused(both, x -> x.send(0, 0, 5, 0), INVALID);
        refused(both, x -> x.send(0, 0, 5, 60), STATE);
        refused(LONG_FRAMES.then(longTrain(0, 199, 60)), x -> x.send(0, 0, 5, 60001), INVALID);
        refused(LONG_FRAMES.then(longTrain(0, 198, 60)), x -> x.send(0, 0, 5, 60), STATE);
    }

    // ---- 18: sendShort

    @Says("This changes a train.")
    static void promise18_undoTakesTheWholeFrameAway() {
        PulseRemote x = made(protocol(WIDTH, 1, HIGHEST, SHORT).then(train(0, 7)).then(y -> y.sendShort(0, 0, 60)));
        due("undo()", x.undo(), 3);
        dueTrain(x, 0, 7);
    }

    @Says("Returns the number of durations then")
    static void promise18_answersTheNumberOfDurations() {
        answers(LONG_FRAMES, x -> x.sendShort(0, 0, 60), 3);
        answers(LONG_FRAMES.then(train(0, 7)), x -> x.sendShort(0, 0, 60), 5);
        answers(LONG_FRAMES.then(longTrain(0, 195, 60)), x -> x.sendShort(0, 0, 60), 199);
    }

    @Says("Appends the short frame of a protocol to a train, like send().")
    static void promise18_noSpaceInAnEmptyTrain() {
        PulseRemote x = made(protocol(DISTANCE, 1, HIGHEST, SHORT));
        due("the number", x.sendShort(0, 0, 777), 3);
        dueTrain(x, 0, 900, 225, 100);
    }

    @Says("Appends the short frame of a protocol to a train, like send().")
    static void promise18_theSpaceBehindATrainThatIsNotEmpty() {
        for (int space : new int[] {1, 777, 60000}) {
            PulseRemote x = made(protocol(DISTANCE, 1, HIGHEST, SHORT).then(train(0, 8)));
            due("the number", x.sendShort(0, 0, space), 5);
            dueTrain(x, 0, 8, space, 900, 225, 100);
        }
    }

    @Says("Appends the short frame of a protocol to a train")
    static void promise18_alsoOfAProtocolThatDoesNotRepeatShort() {
        for (int repetition = 0; repetition < 3; repetition++) {
            PulseRemote x = made(protocol(PHASE, 9, LOWEST, repetition));
            due("the number", x.sendShort(0, 0, 777), 3);
            dueTrain(x, 0, 900, 225, 100);
        }
    }

    @Says("- `slot`: 0 to 2")
    static void promise18_slotFrom0To2() {
        slots((x, slot) -> x.sendShort(slot, 0, 60), 31, 19, 7);
    }

    @Says("- `protocol`: number of a protocol")
    static void promise18_protocolFrom0ToTheLast() {
        between(RICH, (x, protocol) -> x.sendShort(2, protocol, 60), 0, 7, 2, 7);
        refused(train(0, 8), x -> x.sendShort(0, 0, 60), INVALID);
    }

    @Says("- `space`: 1 to 60000")
    static void promise18_spaceFrom1To60000() {
        between(RICH, (x, space) -> x.sendShort(0, 1, space), 1, 31, 60000, 31);
        between(LONG_FRAMES, (x, space) -> x.sendShort(0, 0, space), 1, 3, 60000, 3);
    }

    @Says("ILLEGAL_STATE if the train ends with a space")
    static void promise18_refusedBehindASpace() {
        refused(RICH.then(train(2, 8)), x -> x.sendShort(2, 0, 60), STATE);
        refused(LONG_FRAMES.then(train(0, 8, 9)), x -> x.sendShort(0, 0, 60), STATE);
        answers(LONG_FRAMES.then(train(0, 8, 9, 8)), x -> x.sendShort(0, 0, 60), 7);
    }

    @Says("CAPACITY_EXCEEDED if there would be more than 200.")
    static void promise18_noRoomFor201() {
        answers(LONG_FRAMES.then(longTrain(0, 195, 60)), x -> x.sendShort(0, 0, 60), 199);
        refused(LONG_FRAMES.then(longTrain(0, 197, 60)), x -> x.sendShort(0, 0, 60), CAPACITY);
        refused(LONG_FRAMES.then(longTrain(0, 199, 60)), x -> x.sendShort(0, 0, 60), CAPACITY);
    }

    @Says("INVALID_ARGUMENT if an argument is out of range; ILLEGAL_STATE if the train ends with a space; "
            + "CAPACITY_EXCEEDED if there would be more than 200.")
    static void promise18_theErrorThatIsNamedFirst() {
        Setup both = LONG_FRAMES.then(longTrain(0, 200, 60));
        refused(both, x -> x.sendShort(0, 1, 60), INVALID);
        refused(both, x -> x.sendShort(0, 0, 0), INVALID);
        refused(both, x -> x.sendShort(0, 0, 60), STATE);
        refused(LONG_FRAMES.then(longTrain(0, 198, 60)), x -> x.sendShort(0, 0, 60), STATE);
        refused(LONG_FRAMES.then(longTrain(0, 199, 60)), x -> x.sendShort(0, 0, 60001), INVALID);
    }

    // ---- 19: clear

    @Says("Makes a train empty. This changes a train.")
    static void promise19_thatTrainAloneIsEmptyThen() {
        PulseRemote x = made(FULL.then(train(1, 7)));
        x.clear(0);
        dueTrain(x, 0);
        due("duration 0", x.duration(0, 0), NONE);
        dueTrain(x, 1, 7);
        due("the first duration of the next train", x.append(0, 9), 1);
        dueTrain(x, 0, 9);
    }

    @Says("- `slot`: 0 to 2")
    static void promise19_slotFrom0To2() {
        slots((x, slot) -> x.clear(slot), 27, 15, 3);
    }

    @Says("Returns the number of durations that it had")
    static void promise19_answersTheNumberThatItHad() {
        answers(NEW, x -> x.clear(0), 0);
        answers(train(0, 5), x -> x.clear(0), 1);
        answers(FULL, x -> x.clear(0), 200);
        answers(FULL.then(x -> x.clear(0)), x -> x.clear(0), 0);
    }

    @Says("INVALID_ARGUMENT if slot is out of range.")
    static void promise19_aRefusedSlotChangesNothing() {
        refused(RICH, x -> x.clear(-1), INVALID);
        refused(RICH, x -> x.clear(3), INVALID);
    }

    // ---- 21: distort

    /** Distorts one duration at an index; what it becomes is due. */
    private static void distorted(int index, int duration, int percent, int turn, int due) {
        PulseRemote x = made(longTrain(0, index, 500).then(train(0, duration)));
        x.distort(0, percent, turn);
        due(duration + " at " + index + " by " + percent + ", turn " + turn, x.duration(0, index), due);
    }

    @Says("each duration d becomes d + d * e / 100, rounded down")
    static void promise21_roundedDown() {
        distorted(2, 199, 1, 0, 200);
        distorted(2, 200, 1, 0, 202);
        distorted(2, 99, 1, 0, 99);
        distorted(0, 100, 1, 0, 99);
        distorted(0, 101, 1, 0, 99);
        distorted(0, 199, 1, 0, 197);
        distorted(0, 99, 1, 0, 98);
        distorted(0, 51, 30, 0, 35);
        distorted(2, 51, 30, 0, 66);
    }

    @Says("but at least 1 and at most 60000")
    static void promise21_atLeast1() {
        distorted(0, 1, 30, 0, 1);
        distorted(0, 1, 1, 0, 1);
        distorted(0, 2, 30, 0, 1);
        distorted(0, 3, 30, 0, 2);
    }

    @Says("but at least 1 and at most 60000")
    static void promise21_atMost60000() {
        distorted(2, 60000, 30, 0, 60000);
        distorted(2, 60000, 1, 0, 60000);
        distorted(2, 46153, 30, 0, 59998);
        distorted(2, 46154, 30, 0, 60000);
        distorted(2, 46155, 30, 0, 60000);
        distorted(2, 59405, 1, 0, 59999);
        distorted(0, 60000, 30, 0, 42000);
    }

    @Says("where e is -percent if the index of the duration modulo 3 is 0, 0 if it is 1, and percent if it is 2")
    static void promise21_theSignByTheIndex() {
        PulseRemote x = made(longTrain(0, 200, 1000));
        x.distort(0, 25, 0);
        for (int i = 0; i < 200; i++) {
            due("duration " + i, x.duration(0, i), new int[] {750, 1000, 1250}[i % 3]);
        }
    }

    @Says("both signs of e are exchanged if turn is 1")
    static void promise21_theOtherSignsWithTurn1() {
        PulseRemote x = made(longTrain(0, 200, 1000));
        x.distort(0, 25, 1);
        for (int i = 0; i < 200; i++) {
            due("duration " + i, x.duration(0, i), new int[] {1250, 1000, 750}[i % 3]);
        }
        distorted(0, 99, 1, 1, 99);
        distorted(0, 60000, 30, 1, 60000);
        distorted(2, 99, 1, 1, 98);
        distorted(2, 1, 30, 1, 1);
    }

    @Says("This changes a train.")
    static void promise21_thatTrainAloneUntilUndo() {
        PulseRemote x = made(train(0, 100).then(train(1, 100)).then(train(2, 100)).then(y -> y.distort(1, 10, 0)));
        dueTrain(x, 0, 100);
        dueTrain(x, 1, 90);
        dueTrain(x, 2, 100);
        due("undo()", x.undo(), 3);
        dueTrain(x, 1, 100);
    }

    @Says("- `slot`: 0 to 2")
    static void promise21_slotFrom0To2() {
        slots((x, slot) -> x.distort(slot, 10, 0), 18, 10, 2);
    }

    @Says("- `percent`: 0 to 30")
    static void promise21_percentFrom0To30() {
        between(RICH, (x, percent) -> x.distort(2, percent, 0), 0, 0, 30, 2);
        PulseRemote x = made(train(0, 1000, 1000, 1000).then(y -> y.distort(0, 30, 0)));
        dueTrain(x, 0, 700, 1000, 1300);
    }

    @Says("- `percent`: 0 to 30")
    static void promise21_by0NothingChanges() {
        for (int turn = 0; turn < 2; turn++) {
            int turned = turn;
            PulseRemote x = made(train(0, 1, 60000, 999, 60000).then(y -> y.distort(0, 0, turned)));
            dueTrain(x, 0, 1, 60000, 999, 60000);
        }
    }

    @Says("- `turn`: 0 or 1")
    static void promise21_turn0Or1() {
        between(RICH, (x, turn) -> x.distort(2, 10, turn), 0, 2, 1, 2);
    }

    @Says("Returns the number of durations that changed")
    static void promise21_answersHowManyChanged() {
        answers(NEW, x -> x.distort(0, 30, 0), 0);
        answers(longTrain(0, 200, 1000), x -> x.distort(0, 30, 0), 133);
        answers(train(0, 1, 50, 3, 1, 50, 60000), x -> x.distort(0, 30, 0), 0);
        answers(train(0, 1, 50, 3, 2, 50, 60000), x -> x.distort(0, 30, 0), 1);
        answers(train(0, 3, 50, 1, 60000, 50, 2), x -> x.distort(0, 30, 1), 1);
    }

    @Says("INVALID_ARGUMENT if an argument is out of range.")
    static void promise21_severalArgumentsOutOfRange() {
        refused(RICH, x -> x.distort(3, 31, 2), INVALID);
        refused(RICH, x -> x.distort(0, 31, 1), INVALID);
        refused(NEW, x -> x.distort(0, 31, 0), INVALID);
    }

    // ---- 22: duration

    @Says("Returns a duration of a train. - `slot`: 0 to 2")
    static void promise22_slotFrom0To2() {
        slots((x, slot) -> x.duration(slot, 2), 100, 300, 90);
    }

    @Says("- `index`: from 0 Returns the duration")
    static void promise22_theFirstAndTheLastIndex() {
        PulseRemote x = made(longTrain(0, 199, 500).then(train(0, 77)).then(train(1, 66)));
        due("index 0", x.duration(0, 0), 500);
        due("index 199", x.duration(0, 199), 77);
        due("index 200", x.duration(0, 200), NONE);
        due("index 0 of one", x.duration(1, 0), 66);
    }

    @Says("INVALID_ARGUMENT if slot is out of range or index is negative")
    static void promise22_aNegativeIndex() {
        refused(RICH, x -> x.duration(0, -1), INVALID);
        refused(RICH, x -> x.duration(0, Integer.MIN_VALUE), INVALID);
        refused(NEW, x -> x.duration(0, -1), INVALID);
    }

    @Says("NONE if there are not so many.")
    static void promise22_noneIfThereAreNotSoMany() {
        answers(train(0, 5, 6, 7), x -> x.duration(0, 2), 7);
        refused(train(0, 5, 6, 7), x -> x.duration(0, 3), NONE);
        refused(RICH, x -> x.duration(2, Integer.MAX_VALUE), NONE);
        refused(NEW, x -> x.duration(0, 0), NONE);
        refused(train(0, 5, 6).then(x -> x.undo()), x -> x.duration(0, 1), NONE);
    }

    @Says("INVALID_ARGUMENT if slot is out of range or index is negative; NONE if there are not so many.")
    static void promise22_aWrongArgumentGoesBeforeNone() {
        refused(RICH, x -> x.duration(3, 999), INVALID);
        refused(RICH, x -> x.duration(-1, 999), INVALID);
        refused(RICH, x -> x.duration(3, -1), INVALID);
    }

    // ---- 23: length

    @Says("- `slot`: 0 to 2")
    static void promise23_slotFrom0To2() {
        slots((x, slot) -> x.length(slot), 27, 15, 3);
    }

    @Says("Returns the number")
    static void promise23_theEmptyAndTheFullTrain() {
        answers(NEW, x -> x.length(0), 0);
        answers(train(0, 5), x -> x.length(0), 1);
        answers(FULL, x -> x.length(0), 200);
        answers(FULL, x -> x.length(1), 0);
    }

    @Says("INVALID_ARGUMENT if slot is out of range.")
    static void promise23_slotOutOfRange() {
        refused(RICH, x -> x.length(-1), INVALID);
        refused(RICH, x -> x.length(3), INVALID);
    }

    // ---- 24: frameCount

    @Says("Counts the frames of a train. - `slot`: 0 to 2")
    static void promise24_slotFrom0To2() {
        slots((x, slot) -> x.frameCount(slot), 3, 2, 1);
    }

    @Says("Returns their number")
    static void promise24_noneOneAndAHundred() {
        answers(NEW, x -> x.frameCount(0), 0);
        answers(train(0, 1), x -> x.frameCount(0), 1);
        answers(train(0, 1, 60000), x -> x.frameCount(0), 1);
        answers(train(0, 1, 60000, 1), x -> x.frameCount(0), 2);
        answers(longTrain(0, 199, 10001), x -> x.frameCount(0), 100);
        answers(longTrain(0, 200, 10001), x -> x.frameCount(0), 100);
        answers(longTrain(0, 200, 10000), x -> x.frameCount(0), 1);
    }

    @Says("INVALID_ARGUMENT if slot is out of range.")
    static void promise24_slotOutOfRange() {
        refused(RICH, x -> x.frameCount(-1), INVALID);
        refused(RICH, x -> x.frameCount(3), INVALID);
    }
}
