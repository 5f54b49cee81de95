/** The section Presses, and promises 11 and 27 to 29. */
public final class SentencesOfPressesTest extends Sentences {
    private static final int SHORT_FRAME = -1;
    private static final int NOTHING = -2;
    /** Frames of one bit have three durations, so that a train has room for 50 of them. */
    private static final Setup BIT = protocol(WIDTH, 1, HIGHEST, WHOLE);
    private static final Setup BIT_SHORT = protocol(WIDTH, 1, HIGHEST, SHORT);

    public static void main(String[] args) {
        runAll(SentencesOfPressesTest.class);
    }

    /** Frames in train 0, with a space of 20000 between two: codes of protocol 0, short ones, and strays. */
    private static Setup frames(int... codes) {
        return x -> {
            for (int code : codes) {
                frame(x, 0, code, 20000);
            }
        };
    }

    private static void frame(PulseRemote x, int protocol, int code, int space) {
        if (code == SHORT_FRAME) {
            x.sendShort(0, protocol, space);
        } else if (code == NOTHING) {
            x.append(0, space);
            x.append(0, 7);
        } else {
            x.send(0, protocol, code, space);
        }
    }

    /** So many presses of one frame each: 0, 1, 0, 1, .. */
    private static Setup changing(int presses) {
        return x -> {
            for (int i = 0; i < presses; i++) {
                x.send(0, 0, i % 2, 20000);
            }
        };
    }

    /** The counts of the presses of train 0, and its strays. */
    private static void pressed(Setup setup, int strays, int... counts) {
        PulseRemote x = made(setup);
        due("presses", x.pressCount(0), counts.length);
        for (int press = 0; press < counts.length; press++) {
            due("the count of press " + press, x.press(0, press, 2), counts[press]);
        }
        due("strays", x.strayCount(0), strays);
    }

    // ---- Presses

    @Says("The presses of a train are found by going through its frames in order.")
    static void presses_inTheOrderOfTheFrames() {
        PulseRemote x = made(protocol(WIDTH, 3, HIGHEST, WHOLE).then(frames(5, 2, 7, 7, 0)));
        int[] codes = {5, 2, 7, 0};
        for (int press = 0; press < 4; press++) {
            due("the code of press " + press, x.press(0, press, 1), codes[press]);
        }
    }

    @Says("At most 30 presses are listed (further ones are left out), numbered from 0")
    static void presses_atMost30AreListed() {
        for (int presses : new int[] {0, 1, 29, 30, 31, 32, 50}) {
            answers(BIT.then(changing(presses)), x -> x.pressCount(0), Math.min(presses, 30));
            answers(BIT.then(changing(presses)), x -> x.strayCount(0), 0);
        }
    }

    @Says("(further ones are left out), numbered from 0")
    static void presses_theFirst30AreListed() {
        Setup setup = protocol(WIDTH, 2, HIGHEST, WHOLE).then(changing(30)).then(frames(2, 3));
        PulseRemote x = made(setup);
        for (int press = 0; press < 30; press++) {
            due("the code of press " + press, x.press(0, press, 1), press % 2);
            due("the count of press " + press, x.press(0, press, 2), 1);
        }
        due("press 30", x.press(0, 30, 1), NONE);
        due("press 31", x.press(0, 31, 1), NONE);
    }

    @Says("a press consists of a protocol, a code and a count.")
    static void presses_aProtocolACodeAndACount() {
        PulseRemote x = made(BIT.then(protocol(DISTANCE, 2, HIGHEST, WHOLE)).then(frames(1, 1))
                .then(y -> y.send(0, 1, 2, 20000)));
        int[][] presses = {{0, 1, 2}, {1, 2, 1}};
        for (int press = 0; press < 2; press++) {
            for (int what = 0; what < 3; what++) {
                due("press " + press + ", " + what, x.press(0, press, what), presses[press][what]);
            }
        }
    }

    @Says("A frame continues the latest press that was found")
    static void presses_onlyTheLatestIsContinued() {
        pressed(BIT.then(frames(0, 0, 1, 0, 0, 0)), 0, 2, 1, 3);
        pressed(BIT_SHORT.then(frames(0, SHORT_FRAME, 1, SHORT_FRAME, SHORT_FRAME)), 0, 2, 3);
    }

    @Says("(also one that is not listed)")
    static void presses_oneThatIsNotListedIsContinued() {
        int[] ones = new int[30];
        java.util.Arrays.fill(ones, 1);
        pressed(BIT.then(changing(31)).then(frames(0, 0, 0)), 0, ones);
        pressed(BIT_SHORT.then(changing(31)).then(frames(SHORT_FRAME, SHORT_FRAME)), 0, ones);
        pressed(BIT_SHORT.then(changing(31)).then(frames(SHORT_FRAME, NOTHING, SHORT_FRAME)), 2, ones);
        // press 29 has the code 1: what follows another press does not continue it
        pressed(BIT.then(changing(31)).then(frames(1, 1)), 0, ones);
    }

    @Says("A frame continues the latest press that was found")
    static void presses_theLastListedOneIsContinued() {
        int[] counts = new int[30];
        java.util.Arrays.fill(counts, 1);
        counts[29] = 4;
        pressed(BIT.then(changing(30)).then(frames(1, 1, 1)), 0, counts);
        pressed(BIT_SHORT.then(changing(30)).then(frames(SHORT_FRAME, SHORT_FRAME, SHORT_FRAME)), 0, counts);
        pressed(BIT.then(changing(30)).then(frames(1, 1, 1, 0, 1)), 0, counts);
    }

    @Says("if the space before the frame is at most the hold, 1000 to 60000")
    static void presses_theSpaceIsAtMostTheHold() {
        for (int hold : new int[] {1001, 1002, 39999, 59999, 60000}) {
            Setup set = x -> {
                x.setGap(1000);
                x.setHold(hold);
                x.send(0, 0, 1, 1);
            };
            pressed(BIT.then(set).then(x -> frame(x, 0, 1, hold)), 0, 2);
            pressed(BIT_SHORT.then(set).then(x -> frame(x, 0, SHORT_FRAME, hold)), 0, 2);
            if (hold < 60000) {
                pressed(BIT.then(set).then(x -> frame(x, 0, 1, hold + 1)), 0, 1, 1);
                pressed(BIT_SHORT.then(set).then(x -> frame(x, 0, SHORT_FRAME, hold + 1)), 1, 1);
            }
        }
    }

    @Says("1000 to 60000 (at first 40000)")
    static void presses_theHoldOf1000IsBelowAnySpaceBetweenFrames() {
        Setup set = BIT.then(x -> {
            x.setGap(1000);
            x.setHold(1000);
            x.send(0, 0, 1, 1);
            x.send(0, 0, 1, 1001);
        });
        pressed(set, 0, 1, 1);
        pressed(set.then(x -> x.setHold(1001)), 0, 2);
    }

    @Says("(at first 40000)")
    static void presses_theHoldIsAtFirst40000() {
        pressed(BIT.then(frames(1)).then(x -> frame(x, 0, 1, 40000)), 0, 2);
        pressed(BIT.then(frames(1)).then(x -> frame(x, 0, 1, 40001)), 0, 1, 1);
        answers(NEW, x -> x.setHold(1000), 40000);
    }

    @Says("the frame directly before it belonged to this press (it began or continued it)")
    static void presses_theFrameBeforeBeganOrContinuedIt() {
        pressed(BIT.then(frames(1, 1)), 0, 2);
        pressed(BIT.then(frames(1, 1, 1, 1)), 0, 4);
        pressed(BIT_SHORT.then(frames(1, SHORT_FRAME, SHORT_FRAME, SHORT_FRAME)), 0, 4);
    }

    @Says("the frame directly before it belonged to this press (it began or continued it)")
    static void presses_behindAStrayNothingIsContinued() {
        pressed(BIT.then(frames(1, NOTHING, 1)), 1, 1, 1);
        pressed(BIT.then(frames(1, 1, NOTHING, 1, 1)), 1, 2, 2);
        pressed(BIT_SHORT.then(frames(1, NOTHING, SHORT_FRAME)), 2, 1);
        pressed(BIT_SHORT.then(frames(1, NOTHING, SHORT_FRAME, SHORT_FRAME)), 3, 1);
        pressed(BIT_SHORT.then(frames(1)).then(x -> frame(x, 0, SHORT_FRAME, 40001))
                .then(frames(SHORT_FRAME)), 2, 1);
    }

    @Says("- it decodes to the same protocol and code, and the repetition of the protocol is 0 or 2, or")
    static void presses_theSameCodeContinuesWithTheRepetitions0And2() {
        pressed(protocol(WIDTH, 3, HIGHEST, WHOLE).then(frames(5, 5, 5)), 0, 3);
        pressed(protocol(WIDTH, 3, HIGHEST, TOGGLED).then(frames(5, 5, 5)), 0, 3);
        pressed(protocol(WIDTH, 3, HIGHEST, SHORT).then(frames(5, 5, 5)), 0, 1, 1, 1);
    }

    @Says("- it decodes to the same protocol and code")
    static void presses_anotherCodeBeginsAnother() {
        pressed(protocol(WIDTH, 3, HIGHEST, WHOLE).then(frames(5, 4)), 0, 1, 1);
        pressed(protocol(WIDTH, 3, HIGHEST, TOGGLED).then(frames(5, 1)), 0, 1, 1);
        pressed(protocol(WIDTH, 3, LOWEST, TOGGLED).then(frames(5, 4)), 0, 1, 1);
        Setup two = protocol(WIDTH, 3, HIGHEST, WHOLE).then(protocol(DISTANCE, 3, HIGHEST, WHOLE));
        pressed(two.then(frames(5)).then(x -> frame(x, 1, 5, 20000)), 0, 1, 1);
    }

    @Says("- it decodes to the short frame of the protocol of the press.")
    static void presses_theShortFrameOfTheSameProtocol() {
        Setup other = protocol(WIDTH, 1, HIGHEST, SHORT, 2000, 900, 200, 100, 300);
        pressed(BIT_SHORT.then(other).then(frames(1, SHORT_FRAME)), 0, 2);
        pressed(BIT_SHORT.then(other).then(frames(1)).then(x -> frame(x, 1, SHORT_FRAME, 20000)), 1, 1);
        pressed(BIT_SHORT.then(other).then(x -> frame(x, 1, 1, 20000)).then(frames(SHORT_FRAME)), 1, 1);
        pressed(BIT_SHORT.then(other).then(x -> frame(x, 1, 1, 20000))
                .then(x -> frame(x, 1, SHORT_FRAME, 20000)), 0, 2);
        // the short frames of these two are equal, and are read as that of protocol 0
        Setup twin = protocol(DISTANCE, 3, HIGHEST, SHORT);
        pressed(BIT_SHORT.then(twin).then(x -> frame(x, 1, 1, 20000)).then(frames(SHORT_FRAME)), 1, 1);
        // a short frame that repeats a protocol with the repetition 0 or 2 decodes to nothing
        pressed(BIT.then(frames(1, SHORT_FRAME)), 1, 1);
        pressed(protocol(WIDTH, 1, HIGHEST, TOGGLED).then(frames(1, SHORT_FRAME)), 1, 1);
    }

    @Says("Then the count increases by 1.")
    static void presses_theCountIncreasesBy1() {
        for (int more = 0; more < 49; more++) {
            Setup held = BIT_SHORT.then(frames(1)).then(times(more, x -> x.sendShort(0, 0, 20000)));
            answers(held, x -> x.press(0, 0, 2), 1 + more);
            answers(held, x -> x.pressCount(0), 1);
        }
        answers(BIT.then(times(50, frames(1))), x -> x.press(0, 0, 2), 50);
    }

    @Says("Otherwise, if it decodes to a protocol and a code, it begins a new press with the count 1.")
    static void presses_aNewPressHasTheCount1() {
        pressed(BIT.then(frames(1)), 0, 1);
        pressed(BIT.then(frames(NOTHING)), 1);
        pressed(BIT.then(frames(1, 1, 0)), 0, 2, 1);
        pressed(BIT_SHORT.then(frames(1, SHORT_FRAME, 1)), 0, 2, 1);
        pressed(BIT.then(train(0, 7)).then(frames(1)), 1, 1);
    }

    @Says("Otherwise it is stray; so is a short frame that continues nothing.")
    static void presses_aFrameThatDecodesToNothingIsStray() {
        pressed(NEW.then(train(0, 900, 450, 100)), 1);
        pressed(BIT.then(train(0, 7)), 1);
        pressed(BIT.then(train(0, 7, 20000, 7, 20000)), 2);
        pressed(BIT.then(frames(1, NOTHING, NOTHING)), 2, 1);
    }

    @Says("Otherwise it is stray")
    static void presses_aFrameLongerThanAnyCodeIsStray() {
        for (int size : new int[] {35, 37, 101}) {
            Setup held = BIT.then(frames(1, 1)).then(train(0, 20000)).then(longTrain(0, size, 100));
            pressed(held, 1, 2);
            pressed(held.then(frames(1)), 1, 2, 1);
        }
    }

    @Says("so is a short frame that continues nothing.")
    static void presses_aShortFrameThatContinuesNothingIsStray() {
        pressed(BIT_SHORT.then(frames(SHORT_FRAME)), 1);
        pressed(BIT_SHORT.then(frames(SHORT_FRAME, SHORT_FRAME)), 2);
        pressed(BIT_SHORT.then(frames(SHORT_FRAME, 1, SHORT_FRAME)), 1, 2);
        pressed(BIT_SHORT.then(frames(1)).then(x -> frame(x, 0, SHORT_FRAME, 40001)), 1, 1);
    }

    @Says("The identity of a press is its code; but with the repetition 2 the bit that is sent first "
            + "is taken as 0 in it.")
    static void presses_theIdentityOfToggledCodes() {
        // bits, order, the code of the button, the code that is sent, the button
        int[][] rows = {{3, HIGHEST, 1, 5, 0}, {3, HIGHEST, 5, 1, 0}, {3, HIGHEST, 1, 1, 0}, {3, HIGHEST, 1, 4, NONE},
            {3, HIGHEST, 1, 0, NONE}, {3, HIGHEST, 1, 3, NONE}, {3, LOWEST, 4, 5, 0}, {3, LOWEST, 5, 4, 0},
            {3, LOWEST, 4, 1, NONE}, {3, LOWEST, 4, 0, NONE}, {3, LOWEST, 4, 6, NONE}, {1, HIGHEST, 0, 1, 0},
            {1, LOWEST, 0, 1, 0}, {1, HIGHEST, 1, 0, 0}};
        for (int[] row : rows) {
            Setup setup = protocol(WIDTH, row[0], row[1], TOGGLED).then(x -> x.addButton(0, row[2]));
            answers(setup.then(frames(row[3])), x -> x.press(0, 0, 3), row[4]);
            answers(setup.then(frames(row[3])), x -> x.press(0, 0, 1), row[3]);
        }
    }

    @Says("The identity of a press is its code")
    static void presses_theIdentityOfOtherCodesIsTheCode() {
        for (int repetition : new int[] {WHOLE, SHORT}) {
            for (int order = 0; order < 2; order++) {
                Setup setup = protocol(WIDTH, 3, order, repetition).then(x -> x.addButton(0, 5));
                for (int code = 0; code < 8; code++) {
                    answers(setup.then(frames(code)), x -> x.press(0, 0, 3), code == 5 ? 0 : NONE);
                }
            }
        }
    }

    // ---- 11: setHold

    @Says("- `hold`: 1000 to 60000")
    static void promise11_holdFrom1000To60000() {
        between(RICH, (x, hold) -> x.setHold(hold), 1000, 30000, 60000, 30000);
    }

    @Says("Returns the previous hold")
    static void promise11_answersThePreviousHold() {
        PulseRemote x = new PulseRemote();
        due("at first", x.setHold(60000), 40000);
        due("after 60000", x.setHold(1000), 60000);
        due("after a refused one", x.setHold(999), INVALID);
        due("after 1000", x.setHold(1000), 1000);
        due("after the same", x.setHold(2000), 1000);
    }

    @Says("Sets the hold.")
    static void promise11_theHoldCountsForTrainsThatAreThere() {
        PulseRemote x = made(BIT.then(frames(1, 1)));
        due("with 40000", x.pressCount(0), 1);
        x.setHold(19999);
        due("with 19999", x.pressCount(0), 2);
        x.setHold(20000);
        due("with 20000", x.pressCount(0), 1);
    }

    @Says("INVALID_ARGUMENT if hold is out of range.")
    static void promise11_aRefusedHoldChangesNothing() {
        refused(RICH, x -> x.setHold(999), INVALID);
        refused(RICH, x -> x.setHold(60001), INVALID);
        refused(RICH, x -> x.setHold(0), INVALID);
    }

    // ---- 27: pressCount

    @Says("Counts the presses of a train that are listed.")
    static void promise27_fromNoneTo30() {
        answers(NEW, x -> x.pressCount(0), 0);
        answers(BIT.then(frames(NOTHING)), x -> x.pressCount(0), 0);
        answers(BIT.then(frames(0)), x -> x.pressCount(0), 1);
        answers(BIT.then(changing(30)), x -> x.pressCount(0), 30);
        answers(BIT.then(changing(31)), x -> x.pressCount(0), 30);
    }

    @Says("- `slot`: 0 to 2")
    static void promise27_slotFrom0To2() {
        slots((x, slot) -> x.pressCount(slot), 2, 1, 0);
    }

    @Says("Returns their number; INVALID_ARGUMENT if slot is out of range.")
    static void promise27_slotOutOfRange() {
        refused(RICH, x -> x.pressCount(-1), INVALID);
        refused(RICH, x -> x.pressCount(3), INVALID);
    }

    // ---- 28: press

    @Says("- `slot`: 0 to 2")
    static void promise28_slotFrom0To2() {
        slots((x, slot) -> x.press(slot, 0, 2), 2, 2, NONE);
    }

    @Says("Returns a property of a press. - `slot`: 0 to 2 - `press`: number of a press")
    static void promise28_theFirstAndTheLastPress() {
        answers(RICH, x -> x.press(0, 0, 1), 5);
        answers(RICH, x -> x.press(0, 1, 1), 9);
        refused(RICH, x -> x.press(0, 2, 1), NONE);
        answers(BIT.then(changing(30)), x -> x.press(0, 29, 1), 1);
        refused(BIT.then(changing(30)), x -> x.press(0, 30, 1), NONE);
    }

    @Says("- `what`: 0 its protocol, 1 its code, 2 its count, 3 the button with its protocol and identity "
            + "Returns the property")
    static void promise28_whatFrom0To3() {
        between(RICH, (x, what) -> x.press(1, 0, what), 0, 1, 3, NONE);
        answers(RICH, x -> x.press(1, 0, 1), 3);
        answers(RICH, x -> x.press(1, 0, 2), 2);
        answers(RICH.then(x -> x.addButton(1, 2)), x -> x.press(1, 0, 3), 3);
        answers(RICH, x -> x.press(0, 0, 3), 0);
    }

    @Says("3 the button with its protocol and identity")
    static void promise28_theButtonOfThatProtocol() {
        Setup two = BIT.then(protocol(DISTANCE, 2, HIGHEST, WHOLE));
        answers(two.then(x -> x.addButton(1, 1)).then(frames(1)), x -> x.press(0, 0, 3), NONE);
        answers(two.then(x -> x.addButton(1, 1)).then(x -> x.addButton(0, 1)).then(frames(1)),
                x -> x.press(0, 0, 3), 1);
        Setup twelve = protocol(WIDTH, 4, HIGHEST, WHOLE).then(x -> {
            for (int code = 15; code > 3; code--) {
                x.addButton(0, code);
            }
        });
        answers(twelve.then(frames(4)), x -> x.press(0, 0, 3), 11);
        answers(twelve.then(frames(15)), x -> x.press(0, 0, 3), 0);
        answers(twelve.then(frames(3)), x -> x.press(0, 0, 3), NONE);
    }

    @Says("INVALID_ARGUMENT if slot or what is out of range, or press is negative")
    static void promise28_aNegativePress() {
        refused(RICH, x -> x.press(0, -1, 0), INVALID);
        refused(RICH, x -> x.press(0, Integer.MIN_VALUE, 3), INVALID);
        refused(NEW, x -> x.press(0, -1, 0), INVALID);
    }

    @Says("NONE if there is no such press")
    static void promise28_noSuchPress() {
        for (int what = 0; what < 4; what++) {
            int of = what;
            refused(NEW, x -> x.press(0, 0, of), NONE);
            refused(RICH, x -> x.press(0, 2, of), NONE);
            refused(RICH, x -> x.press(2, 0, of), NONE);
            refused(RICH, x -> x.press(0, Integer.MAX_VALUE, of), NONE);
            refused(BIT.then(changing(31)), x -> x.press(0, 30, of), NONE);
        }
    }

    @Says("NONE for 3 if there is no such button.")
    static void promise28_noSuchButton() {
        refused(RICH, x -> x.press(0, 1, 3), NONE);
        refused(RICH, x -> x.press(1, 0, 3), NONE);
        Setup undone = BIT.then(frames(1)).then(x -> x.addButton(0, 1));
        answers(undone, x -> x.press(0, 0, 3), 0);
        refused(undone.then(x -> x.undo()), x -> x.press(0, 0, 3), NONE);
    }

    @Says("INVALID_ARGUMENT if slot or what is out of range, or press is negative; NONE if there is no such press")
    static void promise28_aWrongArgumentGoesBeforeNone() {
        refused(RICH, x -> x.press(0, 99, 4), INVALID);
        refused(RICH, x -> x.press(0, 99, -1), INVALID);
        refused(RICH, x -> x.press(3, 99, 0), INVALID);
        refused(NEW, x -> x.press(0, 0, 4), INVALID);
    }

    // ---- 29: strayCount

    @Says("Counts the stray frames of a train.")
    static void promise29_fromNoneToAHundred() {
        answers(NEW, x -> x.strayCount(0), 0);
        answers(BIT.then(frames(1, 1)), x -> x.strayCount(0), 0);
        answers(train(0, 7), x -> x.strayCount(0), 1);
        answers(longTrain(0, 199, 10001), x -> x.strayCount(0), 100);
        answers(longTrain(0, 200, 10001), x -> x.strayCount(0), 100);
        answers(longTrain(0, 198, 10001), x -> x.strayCount(0), 99);
    }

    @Says("- `slot`: 0 to 2")
    static void promise29_slotFrom0To2() {
        slots((x, slot) -> x.strayCount(slot), 0, 0, 1);
    }

    @Says("Returns their number; INVALID_ARGUMENT if slot is out of range.")
    static void promise29_slotOutOfRange() {
        refused(RICH, x -> x.strayCount(-1), INVALID);
        refused(RICH, x -> x.strayCount(3), INVALID);
    }
}
