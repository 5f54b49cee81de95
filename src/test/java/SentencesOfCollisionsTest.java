/** The section Collisions, and promises 20, 31 and 32. */
public final class SentencesOfCollisionsTest extends Sentences {
    /** Frames of 900, 450 and then 100 for the code 0, 300 for 1. */
    private static final Setup BIT = protocol(WIDTH, 1, HIGHEST, WHOLE);
    private static final Setup EXACT = x -> x.setTolerance(0);
    /** Trains 0 and 1 with one mark each, train 2 empty. */
    private static final Setup MARKS = train(0, 100).then(train(1, 100));
    /** The frame of the code 1 of protocol 1 reads as that of the code 2 of protocol 0. */
    private static final Setup TWINS = protocol(WIDTH, 2, HIGHEST, WHOLE).then(protocol(WIDTH, 2, LOWEST, WHOLE));

    public static void main(String[] args) {
        runAll(SentencesOfCollisionsTest.class);
    }

    /** The second train laid over the first one. */
    private static void laid(int[] first, int[] second, int offset, int... result) {
        PulseRemote x = made(train(1, first).then(train(0, second)));
        due("the number of durations", x.overlay(1, 0, offset), result.length);
        dueTrain(x, 1, result);
        dueTrain(x, 0, second);
    }

    private static int[] of(int... durations) {
        return durations;
    }

    private static Setup button(int protocol, int code) {
        return x -> x.addButton(protocol, code);
    }

    private static void explained(Setup setup, int step, int i, int j, int offset) {
        PulseRemote x = made(setup);
        due("i", x.explain(0, step, 0), i);
        due("j", x.explain(0, step, 1), j);
        due("the offset", x.explain(0, step, 2), offset);
    }

    private static void notExplained(Setup setup, int step) {
        explained(setup, step, NONE, NONE, NONE);
    }

    // ---- Collisions: laying a train over another one

    @Says("the second one begins the offset later than the first one")
    static void collisions_theSecondBeginsTheOffsetLater() {
        laid(of(100), of(100), 0, 100);
        laid(of(100), of(100), 1, 101);
        laid(of(100), of(100), 99, 199);
        laid(of(100, 50, 100), of(10), 110, 100, 10, 10, 30, 100);
        laid(of(100, 60000, 100), of(10), 60000, 100, 59900, 10, 90, 100);
    }

    @Says("at each moment there is a mark if at least one of them has a mark, and otherwise a space.")
    static void collisions_aMarkWhereAtLeastOneHasAMark() {
        laid(of(100, 200, 100), of(100, 200, 100), 0, 100, 200, 100);
        laid(of(100, 200, 100), of(100, 200, 100), 50, 150, 150, 150);
        laid(of(100, 200, 100), of(100, 200, 100), 150, 100, 50, 100, 50, 100, 50, 100);
        laid(of(1000), of(100, 200, 100), 300, 1000);
        laid(of(100, 200, 100), of(1000), 0, 1000);
        laid(of(10, 10, 10, 10, 10), of(30, 5, 1), 5, 35, 5, 10);
    }

    @Says("at each moment there is a mark if at least one of them has a mark, and otherwise a space.")
    static void collisions_marksThatTouchAreOne() {
        laid(of(100), of(100), 100, 200);
        laid(of(100, 200, 100), of(200), 100, 400);
        laid(of(100, 200, 100), of(199), 101, 100, 1, 299);
        laid(of(100, 200, 100), of(199), 100, 299, 1, 100);
        laid(of(100, 200, 100), of(198), 101, 100, 1, 198, 1, 100);
        laid(of(10, 20, 10, 20, 10), of(20, 10, 20), 10, 70);
    }

    @Says("The result ends with the last mark.")
    static void collisions_theResultEndsWithTheLastMark() {
        laid(of(100, 200, 100), of(100), 0, 100, 200, 100);
        laid(of(100, 200, 100), of(100), 300, 100, 200, 100);
        laid(of(100, 200, 100), of(100), 301, 100, 200, 101);
        laid(of(100), of(100, 200, 100), 0, 100, 200, 100);
        laid(of(100), of(100, 200, 100), 50, 150, 200, 100);
        laid(of(100), of(1), 99, 100);
    }

    @Says("If the second one begins after the end of the first one, there is a space between them.")
    static void collisions_aSpaceBehindTheEndOfTheFirst() {
        laid(of(100), of(50), 100, 150);
        laid(of(100), of(50), 101, 100, 1, 50);
        laid(of(100), of(50), 60000, 100, 59900, 50);
        laid(of(1), of(1), 60000, 1, 59999, 1);
        laid(of(100, 10, 100), of(50), 210, 100, 10, 150);
        laid(of(100, 10, 100), of(50), 211, 100, 10, 100, 1, 50);
    }

    @Says("A collision of two buttons with an offset is the frame of the first one with the frame of the second one "
            + "laid over it")
    static void collisions_theFirstButtonBeginsFirst() {
        Setup two = BIT.then(button(0, 0)).then(button(0, 1)).then(EXACT);
        // 0 to 900, 1350 to 1450; 1400 to 2300, 2750 to 3050
        explained(two.then(train(0, 900, 450, 950, 450, 300)), 1400, 0, 1, 1400);
        explained(two.then(train(0, 900, 450, 950, 450, 100)), 1400, 0, 0, 1400);
        // 0 to 900, 1350 to 1650; 1400 to 2300, 2750 to 2850
        notExplained(two.then(train(0, 900, 450, 950, 449, 100)), 1400);
        explained(two.then(train(0, 900, 450, 1100, 450, 100)), 1550, 1, 0, 1550);
    }

    @Says("(of the codes that are their identities).")
    static void collisions_theFramesOfTheIdentities() {
        Setup toggled = protocol(WIDTH, 2, HIGHEST, TOGGLED).then(button(0, 3)).then(EXACT);
        explained(toggled.then(train(0, 900, 450, 100, 100, 300)), 50, 0, 0, 0);
        notExplained(toggled.then(train(0, 900, 450, 300, 100, 300)), 50);
    }

    // ---- 20: overlay

    @Says("Lays the train of a slot over that of another one, which becomes the result. This changes a train.")
    static void promise20_oneTrainBecomesTheResultAndTheOthersStay() {
        PulseRemote x = made(train(0, 7, 8, 9).then(train(1, 100)).then(train(2, 30, 5, 1)));
        due("the number", x.overlay(2, 1, 33), 3);
        dueTrain(x, 0, 7, 8, 9);
        dueTrain(x, 1, 100);
        dueTrain(x, 2, 30, 3, 100);
    }

    @Says("- `slot`: 0 to 2")
    static void promise20_slotFrom0To2() {
        Setup all = MARKS.then(train(2, 100));
        between(all, (x, slot) -> x.overlay(slot, 1, 101), 0, 3, 2, 3);
        answers(all, x -> x.overlay(1, 0, 101), 3);
    }

    @Says("- `over`: slot of the train that is laid over it, another one")
    static void promise20_overFrom0To2() {
        Setup all = MARKS.then(train(2, 100));
        between(all, (x, over) -> x.overlay(1, over, 101), 0, 3, 2, 3);
        answers(all, x -> x.overlay(0, 1, 101), 3);
    }

    @Says("or both slots are the same")
    static void promise20_bothSlotsAreTheSame() {
        for (int slot = 0; slot < 3; slot++) {
            int same = slot;
            refused(MARKS.then(train(2, 100)), x -> x.overlay(same, same, 0), INVALID);
            refused(RICH, x -> x.overlay(same, same, 60000), INVALID);
        }
    }

    @Says("- `offset`: 0 to 60000")
    static void promise20_offsetFrom0To60000() {
        between(MARKS, (x, offset) -> x.overlay(0, 1, offset), 0, 1, 60000, 3);
        between(RICH, (x, offset) -> x.overlay(2, 1, offset), 0, 15, 60000, 19);
    }

    @Says("Returns the number of durations then")
    static void promise20_from1To199() {
        answers(MARKS, x -> x.overlay(0, 1, 0), 1);
        answers(longTrain(0, 99, 5).then(longTrain(1, 99, 5)), x -> x.overlay(0, 1, 496), 199);
        answers(longTrain(0, 199, 5).then(train(1, 60000)), x -> x.overlay(0, 1, 0), 1);
    }

    @Says("Returns the number of durations then")
    static void promise20_twoLongTrainsMayGiveAShortOne() {
        Setup both = longTrain(0, 199, 5).then(longTrain(1, 199, 5));
        answers(both, x -> x.overlay(0, 1, 0), 199);
        answers(both, x -> x.overlay(0, 1, 4), 199);
        answers(both, x -> x.overlay(0, 1, 5), 1);
    }

    @Says("ILLEGAL_STATE if one of the trains is empty or ends with a space")
    static void promise20_anEmptyTrain() {
        refused(MARKS, x -> x.overlay(0, 2, 0), STATE);
        refused(MARKS, x -> x.overlay(2, 0, 0), STATE);
        refused(NEW, x -> x.overlay(1, 0, 0), STATE);
        refused(MARKS.then(x -> x.clear(1)), x -> x.overlay(0, 1, 5), STATE);
    }

    @Says("or ends with a space")
    static void promise20_aTrainThatEndsWithASpace() {
        Setup space = MARKS.then(train(2, 100, 5));
        refused(space, x -> x.overlay(0, 2, 0), STATE);
        refused(space, x -> x.overlay(2, 0, 0), STATE);
        refused(space.then(train(0, 5)), x -> x.overlay(2, 0, 0), STATE);
        answers(space.then(train(2, 5)), x -> x.overlay(2, 0, 0), 3);
        refused(longTrain(0, 200, 5).then(train(1, 5)), x -> x.overlay(0, 1, 0), STATE);
    }

    @Says("CAPACITY_EXCEEDED if there would be more than 200 durations")
    static void promise20_noRoomFor201Durations() {
        Setup first = longTrain(0, 199, 5);
        answers(first.then(train(1, 7)), x -> x.overlay(0, 1, 995), 199);
        refused(first.then(train(1, 7)), x -> x.overlay(0, 1, 996), CAPACITY);
        answers(train(0, 7).then(longTrain(1, 199, 5)), x -> x.overlay(0, 1, 7), 199);
        refused(train(0, 7).then(longTrain(1, 199, 5)), x -> x.overlay(0, 1, 8), CAPACITY);
        refused(longTrain(0, 99, 5).then(longTrain(1, 101, 5)), x -> x.overlay(0, 1, 496), CAPACITY);
        refused(first.then(longTrain(1, 199, 5)), x -> x.overlay(0, 1, 60000), CAPACITY);
    }

    @Says("or one of them would be above 60000.")
    static void promise20_noDurationAbove60000() {
        Setup two = train(0, 60000).then(train(1, 60000));
        answers(two, x -> x.overlay(0, 1, 0), 1);
        refused(two, x -> x.overlay(0, 1, 1), CAPACITY);
        refused(two, x -> x.overlay(0, 1, 60000), CAPACITY);
        Setup joined = train(0, 30000, 1, 29999).then(train(1, 1));
        answers(joined, x -> x.overlay(0, 1, 30000), 1);
        Setup longer = train(0, 30000, 1, 30000).then(train(1, 1));
        refused(longer, x -> x.overlay(0, 1, 30000), CAPACITY);
        answers(longer, x -> x.overlay(0, 1, 29999), 3);
        refused(train(0, 5, 5, 59999).then(train(1, 2)), x -> x.overlay(0, 1, 8), CAPACITY);
        answers(train(0, 5, 5, 59999).then(train(1, 2)), x -> x.overlay(0, 1, 9), 3);
        answers(train(0, 1, 60000, 1).then(train(1, 1)), x -> x.overlay(0, 1, 0), 3);
    }

    @Says("INVALID_ARGUMENT if an argument is out of range, or both slots are the same; ILLEGAL_STATE if one of the "
            + "trains is empty or ends with a space; CAPACITY_EXCEEDED if there would be more than 200 durations")
    static void promise20_theErrorThatIsNamedFirst() {
        refused(MARKS, x -> x.overlay(2, 2, 0), INVALID);
        refused(MARKS, x -> x.overlay(0, 2, 60001), INVALID);
        refused(MARKS, x -> x.overlay(2, 3, 0), INVALID);
        refused(train(0, 60000).then(train(1, 60000)), x -> x.overlay(0, 1, 60001), INVALID);
        refused(train(0, 60000, 5).then(train(1, 60000)), x -> x.overlay(0, 1, 1), STATE);
        refused(train(0, 60000).then(train(1, 60000, 5)), x -> x.overlay(0, 1, 1), STATE);
        refused(longTrain(0, 200, 5).then(longTrain(1, 199, 5)), x -> x.overlay(0, 1, 60000), STATE);
    }

    // ---- 31: explain

    @Says("searches for buttons i and j (possibly the same)")
    static void promise31_theSameButtonTwice() {
        Setup one = BIT.then(button(0, 1)).then(EXACT);
        explained(one.then(train(0, 900, 450, 300)), 50, 0, 0, 0);
        explained(one.then(train(0, 900, 450, 950, 450, 300)), 1400, 0, 0, 1400);
    }

    @Says("searches for buttons i and j")
    static void promise31_withoutButtonsThereIsNone() {
        notExplained(BIT.then(train(0, 900, 450, 300)), 50);
        notExplained(train(0, 900, 450, 300), 50);
        notExplained(BIT.then(train(0, 900, 450, 300)).then(button(0, 1)).then(x -> x.undo()), 50);
    }

    @Says("searches for buttons i and j")
    static void promise31_noButtonThatIsNoMore() {
        Setup two = BIT.then(train(0, 900, 450, 300)).then(button(0, 0)).then(button(0, 1));
        PulseRemote x = made(two.then(EXACT));
        due("i", x.explain(0, 50, 0), 0);
        due("j", x.explain(0, 50, 1), 1);
        x.undo();
        x.undo();
        x.setTolerance(0);
        due("i without button 1", x.explain(0, 50, 0), NONE);
        due("j without button 1", x.explain(0, 50, 1), NONE);
        readAnew(two, y -> y.undo());
        readAnew(two.then(text("  ")), y -> y.load());
    }

    @Says("such that the train has the same number of durations as the collision of them")
    static void promise31_theSameNumberOfDurations() {
        Setup one = BIT.then(button(0, 1));
        explained(one.then(train(0, 900, 450, 300)), 50, 0, 0, 0);
        notExplained(one, 50);
        notExplained(one.then(train(0, 900)), 50);
        notExplained(one.then(train(0, 900, 450)), 50);
        notExplained(one.then(train(0, 900, 450, 300, 1)), 50);
        notExplained(one.then(train(0, 900, 450, 300, 450)), 50);
        notExplained(one.then(train(0, 900, 450, 300, 450, 300)), 50);
        notExplained(one.then(longTrain(0, 199, 900)), 50);
        notExplained(one.then(longTrain(0, 200, 900)), 50);
    }

    @Says("and each of its durations matches the one there.")
    static void promise31_eachDurationMatches() {
        for (int tolerance : new int[] {0, 20, 40}) {
            Setup one = BIT.then(button(0, 1)).then(x -> x.setTolerance(tolerance));
            int[] frame = {900, 450, 300};
            for (int i = 0; i < 3; i++) {
                for (int sign = -1; sign <= 1; sign += 2) {
                    int[] edge = frame.clone();
                    edge[i] += sign * frame[i] * tolerance / 100;
                    answers(one.then(train(0, edge)), x -> x.explain(0, 2000, 2), 0);
                    edge[i] += sign;
                    answers(one.then(train(0, edge)), x -> x.explain(0, 2000, 2), NONE);
                }
            }
        }
    }

    @Says("The offsets 0, step, 2 * step, ... are tried, 30 of them.")
    static void promise31_thirtyOffsetsAreTried() {
        Setup one = BIT.then(button(0, 1)).then(EXACT);
        for (int step : new int[] {57, 100, 2000}) {
            for (int k : new int[] {29, 30}) {
                // the frame ends at 1650, 57 * 29 is 1653
                Setup late = one.then(train(0, 900, 450, 300, k * step - 1650, 900, 450, 300));
                explained(late, step, k == 29 ? 0 : NONE, k == 29 ? 0 : NONE, k == 29 ? 29 * step : NONE);
            }
        }
        Setup atOnce = one.then(train(0, 900, 450, 300));
        for (int step : new int[] {50, 51, 1999, 2000}) {
            explained(atOnce, step, 0, 0, 0);
        }
    }

    @Says("The offsets 0, step, 2 * step, ... are tried")
    static void promise31_onlyMultiplesOfTheStepAreTried() {
        Setup late = BIT.then(button(0, 1)).then(EXACT).then(train(0, 900, 450, 300, 350, 900, 450, 300));
        for (int step : new int[] {80, 100, 125, 200, 250, 400, 500, 1000, 2000}) {
            explained(late, step, 0, 0, 2000);
        }
        for (int step : new int[] {50, 99, 101, 667, 1999}) {
            notExplained(late, step);
        }
    }

    @Says("The buttons i are tried by ascending numbers, for each of them the buttons j by ascending numbers")
    static void promise31_theSmallestButtons() {
        Setup two = BIT.then(button(0, 0)).then(button(0, 1)).then(EXACT);
        // 0 and 1, 1 and 0, 1 and 1 give this at the same moment
        explained(two.then(train(0, 900, 450, 300)), 50, 0, 1, 0);
        explained(two.then(train(0, 900, 450, 100)), 50, 0, 0, 0);
        Setup turned = BIT.then(button(0, 1)).then(button(0, 0)).then(EXACT);
        explained(turned.then(train(0, 900, 450, 300)), 50, 0, 0, 0);
        explained(turned.then(train(0, 900, 450, 100)), 50, 1, 1, 0);
    }

    @Says("and for each of these the offsets in ascending order.")
    static void promise31_theSmallestOffset() {
        Setup one = BIT.then(button(0, 0));
        // with the offset 50 it is 950, 400, 150
        explained(one.then(train(0, 925, 425, 120)), 50, 0, 0, 0);
        explained(one.then(train(0, 925, 425, 121)), 50, 0, 0, 50);
    }

    @Says("for each of them the buttons j by ascending numbers, and for each of these the offsets in ascending order.")
    static void promise31_anEarlierButtonGoesBeforeASmallerOffset() {
        // button 1 alone is what button 0 twice is with the offset 1400
        Setup same = BIT.then(protocol(WIDTH, 2, HIGHEST, WHOLE, 900, 450, 450, 950, 100)).then(button(0, 0))
                .then(button(1, 1)).then(EXACT).then(train(0, 900, 450, 950, 450, 100));
        explained(same, 50, 0, 0, 1400);
        explained(same, 1400, 0, 0, 1400);
        explained(same, 51, 0, 1, 0);
    }

    @Says("Explains the train of a slot as a collision")
    static void promise31_upToTheTwelfthButton() {
        Setup twelve = protocol(WIDTH, 4, HIGHEST, WHOLE).then(EXACT).then(x -> {
            for (int code = 0; code < 12; code++) {
                x.addButton(0, code);
            }
        });
        for (int j : new int[] {0, 3, 11}) {
            Setup laid = twelve.then(x -> {
                x.send(0, 0, 11, 1);
                x.send(1, 0, j, 1);
                x.overlay(0, 1, 2900);
            });
            explained(laid, 100, 11, j, 2900);
        }
    }

    @Says("- `slot`: 0 to 2")
    static void promise31_slotFrom0To2() {
        Setup all = BIT.then(button(0, 1)).then(train(0, 900, 450, 300)).then(train(1, 900, 450, 300))
                .then(train(2, 900, 450, 300));
        between(all, (x, slot) -> x.explain(slot, 50, 2), 0, 0, 2, 0);
        answers(all, x -> x.explain(1, 50, 0), 0);
        answers(all.then(x -> x.clear(1)), x -> x.explain(1, 50, 0), NONE);
    }

    @Says("- `step`: 50 to 2000")
    static void promise31_stepFrom50To2000() {
        Setup one = BIT.then(button(0, 1)).then(EXACT);
        between(one.then(train(0, 900, 450, 300)), (x, step) -> x.explain(0, step, 0), 50, 0, 2000, 0);
        answers(one.then(train(0, 950, 400, 350)), x -> x.explain(0, 50, 2), 50);
        answers(one.then(train(0, 900, 450, 300, 350, 900, 450, 300)), x -> x.explain(0, 2000, 2), 2000);
        between(RICH, (x, step) -> x.explain(2, step, 0), 50, NONE, 2000, NONE);
    }

    @Says("- `part`: 0 for i, 1 for j, 2 for the offset Returns the part of the first explanation that is found")
    static void promise31_partFrom0To2() {
        Setup two = BIT.then(button(0, 0)).then(button(0, 1)).then(EXACT).then(train(0, 900, 450, 950, 450, 300));
        between(two, (x, part) -> x.explain(0, 1400, part), 0, 0, 2, 1400);
        answers(two, x -> x.explain(0, 1400, 1), 1);
    }

    @Says("INVALID_ARGUMENT if an argument is out of range; NONE if there is none.")
    static void promise31_aWrongArgumentGoesBeforeNone() {
        refused(NEW, x -> x.explain(0, 49, 0), INVALID);
        refused(NEW, x -> x.explain(0, 2001, 0), INVALID);
        refused(NEW, x -> x.explain(3, 50, 0), INVALID);
        refused(NEW, x -> x.explain(0, 50, 3), INVALID);
        refused(NEW, x -> x.explain(0, 50, 0), NONE);
        refused(RICH, x -> x.explain(2, 50, 1), NONE);
    }

    // ---- 32: ghosts

    private static void ghosts(Setup setup, int offset, int due) {
        answers(setup, x -> x.ghosts(offset), due);
    }

    @Says("Counts the pairs of buttons i and j, i at most j")
    static void promise32_withoutButtonsThereAreNoPairs() {
        ghosts(NEW, 0, 0);
        ghosts(TWINS, 0, 0);
        ghosts(TWINS, 60000, 0);
        ghosts(TWINS.then(button(0, 2)), 0, 0);
        ghosts(TWINS.then(button(1, 1)), 0, 0);
    }

    @Says("Counts the pairs of buttons i and j, i at most j")
    static void promise32_pairsOfOneButtonAndEachPairOnce() {
        // button 1 of protocol 1 shows button 0: with itself and with the third one
        Setup two = TWINS.then(button(0, 2)).then(button(1, 1));
        ghosts(two, 60000, 1);
        ghosts(two, 0, 1);
        ghosts(two.then(button(0, 0)), 60000, 2);
        ghosts(TWINS.then(button(0, 0)).then(button(0, 2)).then(button(1, 1)), 60000, 2);
        ghosts(TWINS.then(button(1, 1)).then(button(0, 0)).then(button(0, 2)), 60000, 2);
    }

    @Says("Counts the pairs of buttons i and j, i at most j")
    static void promise32_noButtonThatIsNoMore() {
        PulseRemote x = made(TWINS.then(button(0, 2)).then(button(1, 1)));
        due("with both", x.ghosts(60000), 1);
        x.undo();
        due("without the second one", x.ghosts(60000), 0);
        x.addButton(1, 2);
        due("with one that reads as 1 of protocol 0", x.ghosts(60000), 0);
    }

    @Says("Counts the pairs of buttons i and j, i at most j")
    static void promise32_allPairsOfTwelveButtons() {
        // 110 reads as 0, so that all pairs without the code 0 show it
        Setup blurred = protocol(WIDTH, 4, HIGHEST, WHOLE, 900, 450, 100, 100, 110).then(x -> {
            for (int code = 11; code >= 0; code--) {
                x.addButton(0, code);
            }
        });
        ghosts(blurred, 0, 66);
        ghosts(blurred, 60000, 66);
        ghosts(blurred.then(x -> x.undo()), 0, 0);
        ghosts(blurred.then(x -> x.setTolerance(0)), 60000, 0);
    }

    @Says("whose collision with an offset has frames")
    static void promise32_theFramesArePartedByTheGap() {
        // the frame of button 1 ends at 1850
        Setup two = TWINS.then(button(0, 2)).then(button(1, 1));
        ghosts(two, 11850, 0);
        ghosts(two, 11851, 1);
        ghosts(two.then(x -> x.setGap(1000)), 2850, 0);
        ghosts(two.then(x -> x.setGap(1000)), 2851, 1);
        ghosts(two.then(x -> x.setGap(60000)), 60000, 0);
    }

    @Says("has frames that decode to a protocol and a code")
    static void promise32_theFirstOrTheSecondFrame() {
        // with 0 for its first frame, with 1 for its second one
        ghosts(TWINS.then(button(1, 1)).then(button(0, 0)).then(button(0, 2)), 11851, 2);
        ghosts(TWINS.then(button(0, 0)).then(button(1, 1)).then(button(0, 2)), 11851, 2);
    }

    @Says("that decode to a protocol and a code")
    static void promise32_shortFramesShowNoGhosts() {
        // button 1 twice, 50 apart, is 950, 175, 100: the short frame of protocol 0
        Setup shorts = protocol(DISTANCE, 1, HIGHEST, SHORT).then(protocol(WIDTH, 1, HIGHEST, WHOLE,
                900, 225, 5000, 50, 5000)).then(button(0, 0)).then(button(1, 0)).then(x -> x.setTolerance(23));
        PulseRemote x = made(shorts.then(train(0, 950, 175, 100)));
        due("that it is a short frame", x.frame(0, 0, 4), 1);
        due("of protocol 0", x.frame(0, 0, 2), 0);
        due("ghosts", x.ghosts(50), 0);
    }

    @Says("whose identity belongs to another button than i and j.")
    static void promise32_onlyAnotherButton() {
        // both read as the code 2 of protocol 0, and the pair has that button
        ghosts(TWINS.then(button(0, 2)), 60000, 0);
        Setup two = TWINS.then(button(1, 1)).then(button(0, 2));
        ghosts(two, 60000, 1);
        // without the button (0, 2) there is nothing to be shown
        ghosts(TWINS.then(button(1, 1)).then(button(0, 1)).then(button(0, 3)), 60000, 0);
        ghosts(TWINS.then(button(1, 1)).then(button(1, 2)), 60000, 0);
    }

    @Says("a code whose identity belongs to another button")
    static void promise32_theIdentityCounts() {
        Setup toggled = protocol(WIDTH, 2, HIGHEST, TOGGLED).then(protocol(WIDTH, 2, LOWEST, WHOLE));
        // the frame of the code 1 of protocol 1 reads as 2 of protocol 0, whose identity is 0
        ghosts(toggled.then(button(1, 1)).then(button(0, 0)), 60000, 1);
        ghosts(toggled.then(button(1, 1)).then(button(0, 1)), 60000, 0);
        // 3 reads as 3, whose identity is 1
        ghosts(toggled.then(button(1, 3)).then(button(0, 1)), 60000, 1);
        ghosts(toggled.then(button(1, 3)).then(button(0, 0)), 60000, 0);
    }

    @Says("- `offset`: 0 to 60000")
    static void promise32_offsetFrom0To60000() {
        between(TWINS.then(button(0, 2)).then(button(1, 1)), (x, offset) -> x.ghosts(offset), 0, 1, 60000, 1);
        between(RICH, (x, offset) -> x.ghosts(offset), 0, 0, 60000, 0);
    }

    @Says("Returns the number of pairs; INVALID_ARGUMENT if offset is out of range.")
    static void promise32_offsetOutOfRange() {
        refused(NEW, x -> x.ghosts(-1), INVALID);
        refused(NEW, x -> x.ghosts(60001), INVALID);
    }
}
