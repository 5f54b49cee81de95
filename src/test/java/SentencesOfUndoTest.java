/** The section Undo, and promise 33. */
public final class SentencesOfUndoTest extends Sentences {
    private static final Setup LEARNABLE = train(0, 1000, 500, 100, 100, 200);
    /** Five saved states, and the text of one item. */
    private static final Setup FIVE = NEW.then(x -> {
        x.addProtocol(DISTANCE, 4, LOWEST, TOGGLED);
        x.addButton(0, 6);
        x.send(0, 0, 7, 60);
        x.append(1, 70);
        x.append(2, 80);
    }).then(text("proto 1 900 450 100 100 300 4 0 0;"));
    /** Five saved states, with settings that are not those of the beginning. */
    private static final Setup SET = NEW.then(x -> {
        x.setGap(2000);
        x.setHold(3000);
        x.setTolerance(4);
        x.addProtocol(WIDTH, 5, HIGHEST, SHORT);
        x.send(0, 0, 7, 60);
    });

    public static void main(String[] args) {
        runAll(SentencesOfUndoTest.class);
    }

    /** The call saves one state, and undo() makes the object show what it showed before. */
    private static void savedBy(Setup setup, Call call) {
        int before = made(setup).count(3);
        due("that it is no error", Math.min(call.on(made(setup)), 0), 0);
        Setup called = setup.then(call::on);
        answers(called, x -> x.count(3), before + 1);
        answers(called, x -> x.undo(), before);
        unchangedBy(setup, x -> {
            call.on(x);
            return x.undo();
        });
    }

    private static void savedBy(Call call) {
        savedBy(FIVE, call);
        savedBy(SET, call);
    }

    private static void savesNothing(Setup setup, Setup call) {
        int before = made(setup).count(3);
        answers(setup.then(call), x -> x.count(3), before);
    }

    /** So many durations 1, 2, 3, .. in train 0. */
    private static Setup counting(int from, int to) {
        return x -> {
            for (int i = from; i <= to; i++) {
                x.append(0, i);
            }
        };
    }

    // ---- Undo: what saves a state

    @Says("Every successful call of addProtocol(),")
    static void undo_addProtocolSaves() {
        savedBy(x -> x.addProtocol(PHASE, 16, HIGHEST, SHORT));
        savedBy(NEW, x -> x.addProtocol(DISTANCE, 1, HIGHEST, WHOLE));
    }

    @Says("setLengths(),")
    static void undo_setLengthsSaves() {
        savedBy(x -> x.setLengths(0, 50, 51, 52, 53, 54));
        savedBy(x -> x.setLengths(0, 9000, 4500, 560, 560, 1690));
        savedBy(NEW.then(x -> x.addProtocol(PHASE, 3, LOWEST, SHORT)), x -> x.setLengths(0, 50, 51, 52, 0, 0));
    }

    @Says("learn(),")
    static void undo_learnSaves() {
        savedBy(LEARNABLE, x -> x.learn(0));
        savedBy(NEW.then(x -> {
            x.setGap(5000);
            x.setTolerance(4);
            x.addProtocol(WIDTH, 3, LOWEST, TOGGLED);
            x.send(1, 0, 2, 60);
        }), x -> x.learn(1));
    }

    @Says("addButton(),")
    static void undo_addButtonSaves() {
        savedBy(x -> x.addButton(0, 9));
    }

    @Says("load(),")
    static void undo_loadSaves() {
        Setup text = text("proto 2 50 50 50 0 0 1 0 0;button 0 1;");
        for (Setup setup : new Setup[] {FIVE.then(x -> x.clearText()), SET}) {
            savedBy(setup, x -> x.load());
            savedBy(setup, x -> {
                text.on(x);
                return x.load();
            });
        }
    }

    @Says("setGap(),")
    static void undo_setGapSaves() {
        savedBy(x -> x.setGap(1000));
        savedBy(FIVE, x -> x.setGap(10000));
        savedBy(SET, x -> x.setGap(2000));
    }

    @Says("setHold(),")
    static void undo_setHoldSaves() {
        savedBy(x -> x.setHold(1000));
        savedBy(FIVE, x -> x.setHold(40000));
        savedBy(SET, x -> x.setHold(3000));
    }

    @Says("setTolerance(),")
    static void undo_setToleranceSaves() {
        savedBy(x -> x.setTolerance(0));
        savedBy(FIVE, x -> x.setTolerance(20));
        savedBy(SET, x -> x.setTolerance(4));
    }

    @Says("and of the methods of the section \"trains\" that say that they change a train")
    static void undo_appendSaves() {
        for (int slot = 0; slot < 3; slot++) {
            int of = slot;
            savedBy(x -> x.append(of, 60));
        }
        savedBy(NEW, x -> x.append(0, 60));
    }

    @Says("and of the methods of the section \"trains\" that say that they change a train")
    static void undo_sendSaves() {
        for (int slot = 0; slot < 3; slot++) {
            int of = slot;
            savedBy(x -> x.send(of, 0, 5, 60));
        }
    }

    @Says("and of the methods of the section \"trains\" that say that they change a train")
    static void undo_sendShortSaves() {
        for (int slot = 0; slot < 3; slot++) {
            int of = slot;
            savedBy(x -> x.sendShort(of, 0, 60));
        }
    }

    @Says("and of the methods of the section \"trains\" that say that they change a train")
    static void undo_clearSaves() {
        for (int slot = 0; slot < 3; slot++) {
            int of = slot;
            // some of these trains are empty: the call succeeds, and changes nothing
            savedBy(x -> x.clear(of));
        }
    }

    @Says("and of the methods of the section \"trains\" that say that they change a train")
    static void undo_overlaySaves() {
        savedBy(FIVE, x -> x.overlay(0, 1, 50));
        savedBy(FIVE, x -> x.overlay(1, 0, 60000));
        savedBy(FIVE, x -> x.overlay(2, 1, 0));
        savedBy(SET.then(times(2, x -> x.undo())).then(train(0, 70)).then(train(1, 70)), x -> x.overlay(1, 0, 70));
    }

    @Says("and of the methods of the section \"trains\" that say that they change a train")
    static void undo_distortSaves() {
        for (int slot = 0; slot < 3; slot++) {
            int of = slot;
            savedBy(x -> x.distort(of, 30, 1));
            savedBy(x -> x.distort(of, 0, 0));
        }
    }

    @Says("Every successful call")
    static void undo_refusedCallsSaveNothing() {
        savesNothing(FIVE, x -> x.addProtocol(3, 1, 0, 0));
        savesNothing(FIVE, x -> x.setLengths(0, 1, 1, 1, 1, 1));
        savesNothing(FIVE, x -> x.learn(1));
        savesNothing(FIVE, x -> x.addButton(0, 6));
        savesNothing(FIVE.then(text("x")), x -> x.load());
        savesNothing(FIVE, x -> x.setGap(999));
        savesNothing(FIVE, x -> x.setHold(60001));
        savesNothing(FIVE, x -> x.setTolerance(41));
        savesNothing(FIVE, x -> x.append(0, 0));
        savesNothing(FIVE, x -> x.send(0, 0, 16, 60));
        savesNothing(FIVE, x -> x.sendShort(0, 1, 60));
        savesNothing(FIVE, x -> x.clear(3));
        savesNothing(FIVE, x -> x.overlay(0, 0, 0));
        savesNothing(FIVE, x -> x.distort(0, 31, 0));
    }

    @Says("Every successful call of addProtocol(), setLengths(), learn(), addButton(), load(), setGap(), setHold(), "
            + "setTolerance(), and of the methods of the section \"trains\" that say that they change a train")
    static void undo_otherCallsSaveNothing() {
        savesNothing(FIVE, x -> x.appendCharacter(32));
        savesNothing(FIVE, x -> x.clearText());
        Call[] looks = {x -> x.protocol(0, 1), x -> x.count(3), x -> x.clusters(0, 0), x -> x.button(0, 1),
            x -> x.duration(0, 1), x -> x.length(0), x -> x.frameCount(0), x -> x.frame(0, 0, 3),
            x -> x.deviation(0, 0), x -> x.pressCount(0), x -> x.press(0, 0, 3), x -> x.strayCount(0),
            x -> x.neededTolerance(0), x -> x.explain(0, 50, 0), x -> x.ghosts(60000)};
        for (Call look : looks) {
            unchangedBy(FIVE, look);
            unchangedBy(RICH, look);
        }
    }

    @Says("saves the state that preceded it: everything but the text.")
    static void undo_theTextIsNotRestored() {
        Setup written = x -> {
            x.setGap(2000);
            x.appendCharacter('a');
        };
        PulseRemote x = made(text("abc").then(written));
        due("undo()", x.undo(), 0);
        due("characters", x.count(2), 4);
        x = made(text("abc").then(y -> y.setGap(2000)).then(y -> y.clearText()));
        due("undo()", x.undo(), 0);
        due("characters", x.count(2), 0);
    }

    @Says("everything but the text.")
    static void undo_theTextThatWasLoadedStaysEmpty() {
        PulseRemote x = made(FIVE.then(y -> y.load()));
        due("protocols", x.count(0), 1);
        due("buttons", x.count(1), 0);
        due("undo()", x.undo(), 5);
        due("characters", x.count(2), 0);
        due("buttons", x.count(1), 1);
        due("the order of protocol 0", x.protocol(0, 7), LOWEST);
    }

    @Says("saves the state that preceded it: everything")
    static void undo_allIsRestored() {
        PulseRemote x = made(FIVE.then(y -> {
            y.load();
            y.clear(0);
            y.clear(2);
            y.setHold(2000);
            y.setGap(3000);
            y.setTolerance(4);
        }));
        for (int left = 5; left >= 0; left--) {
            due("undo()", x.undo(), left);
        }
        dueProtocol(x, 0, DISTANCE, 9000, 4500, 560, 560, 1690, 4, LOWEST, TOGGLED);
        due("protocols", x.count(0), 1);
        due("buttons", x.count(1), 1);
        due("the identity", x.button(0, 1), 6);
        due("train 0", x.length(0), 11);
        dueTrain(x, 1, 70);
        dueTrain(x, 2, 80);
        due("the gap", x.setGap(1000), 10000);
        due("the hold", x.setHold(1000), 40000);
        due("the tolerance", x.setTolerance(0), 20);
    }

    // ---- Undo: how many

    @Says("At most 6 states are saved; when a seventh is saved, the oldest one is discarded.")
    static void undo_atMost6States() {
        for (int calls = 0; calls <= 14; calls++) {
            int made = calls;
            answers(counting(1, made), x -> x.count(3), Math.min(made, 6));
        }
    }

    @Says("when a seventh is saved, the oldest one is discarded.")
    static void undo_theOldestIsDiscarded() {
        for (int calls : new int[] {5, 6, 7, 8, 12, 13, 200}) {
            PulseRemote x = made(counting(1, calls));
            int saved = Math.min(calls, 6);
            for (int left = saved - 1; left >= 0; left--) {
                due("undo()", x.undo(), left);
            }
            due("one more undo()", x.undo(), STATE);
            due("the length", x.length(0), calls - saved);
            due("the last duration", x.duration(0, calls - saved - 1), calls > saved ? calls - saved : INVALID);
        }
    }

    @Says("undo() restores the most recently saved state and discards it.")
    static void undo_theMostRecentStateFirst() {
        PulseRemote x = made(counting(1, 6));
        for (int left = 5; left >= 0; left--) {
            due("undo()", x.undo(), left);
            due("the length", x.length(0), left);
            due("the states", x.count(3), left);
        }
    }

    @Says("undo() restores the most recently saved state and discards it.")
    static void undo_savingGoesOnBehindAnUndo() {
        // 8 durations, 3 undone, 5 others: of the 8 states 6 stay
        PulseRemote x = made(counting(1, 8).then(times(3, y -> y.undo())).then(counting(106, 110)));
        due("the states", x.count(3), 6);
        dueTrain(x, 0, 1, 2, 3, 4, 5, 106, 107, 108, 109, 110);
        for (int left = 5; left >= 0; left--) {
            due("undo()", x.undo(), left);
            due("the length", x.length(0), 4 + left);
        }
        dueTrain(x, 0, 1, 2, 3, 4);
        due("one more undo()", x.undo(), STATE);
        dueTrain(x, 0, 1, 2, 3, 4);
    }

    @Says("undo() restores the most recently saved state and discards it.")
    static void undo_aRestoredStateIsNotChangedBySavedOnes() {
        PulseRemote x = new PulseRemote();
        for (int round = 0; round < 20; round++) {
            x.append(0, 1 + round);
            x.append(1, 2 + round);
            due("undo()", x.undo(), Math.min(round + 1, 5));
            due("train 0", x.length(0), round + 1);
            due("its last duration", x.duration(0, round), 1 + round);
            due("train 1", x.length(1), 0);
        }
    }

    // ---- 33: undo

    @Says("Restores the most recently saved state and discards it.")
    static void promise33_undoItselfSavesNothing() {
        PulseRemote x = made(counting(1, 2));
        due("undo()", x.undo(), 1);
        due("the states", x.count(3), 1);
        due("undo() again goes on", x.undo(), 0);
        dueTrain(x, 0);
    }

    @Says("Returns the number of states that are still saved")
    static void promise33_answersTheNumberOfStates() {
        answers(counting(1, 1), x -> x.undo(), 0);
        answers(counting(1, 6), x -> x.undo(), 5);
        answers(counting(1, 7), x -> x.undo(), 5);
        answers(counting(1, 7).then(x -> x.undo()), x -> x.undo(), 4);
    }

    @Says("ILLEGAL_STATE if there is none.")
    static void promise33_noStateIsSaved() {
        refused(NEW, x -> x.undo(), STATE);
        refused(text("abc"), x -> x.undo(), STATE);
        refused(counting(1, 1).then(x -> x.undo()), x -> x.undo(), STATE);
        refused(counting(1, 9).then(times(6, x -> x.undo())), x -> x.undo(), STATE);
        refused(x -> x.setGap(999), x -> x.undo(), STATE);
        answers(counting(1, 9).then(times(7, x -> x.undo())), x -> x.append(0, 5), 4);
    }
}
