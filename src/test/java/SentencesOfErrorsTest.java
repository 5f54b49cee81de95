/** The section Errors: what holds for every method that refuses a call. */
public final class SentencesOfErrorsTest extends Sentences {
    /** 6 protocols, 12 buttons, 199 durations in train 1, and a full text with an error. */
    private static final Setup FULL = x -> {
        for (int i = 0; i < 6; i++) {
            x.addProtocol(DISTANCE, 16, HIGHEST, WHOLE);
        }
        for (int code = 0; code < 12; code++) {
            x.addButton(0, code);
        }
        x.setLengths(0, 50, 50, 50, 50, 51);
        times(5, y -> y.send(1, 0, 5, 60)).on(x);
        longTrain(1, 20, 50).on(x);
        longTrain(2, 5, 500).on(x);
        text("button" + " ".repeat(154)).on(x);
    };

    public static void main(String[] args) {
        runAll(SentencesOfErrorsTest.class);
    }

    @Says("A method that returns an error code changes nothing.")
    static void errors_anInvalidArgumentChangesNothing() {
        Call[] calls = {x -> x.addProtocol(3, 1, 0, 0), x -> x.setLengths(0, 49, 60, 70, 80, 90), x -> x.protocol(3, 0),
            x -> x.count(4), x -> x.learn(3), x -> x.clusters(0, 2), x -> x.addButton(0, 16), x -> x.button(3, 0),
            x -> x.setGap(999), x -> x.setHold(999), x -> x.setTolerance(41), x -> x.appendCharacter(256),
            x -> x.append(0, 0), x -> x.send(0, 0, 16, 60), x -> x.sendShort(0, 0, 0), x -> x.clear(3),
            x -> x.overlay(0, 0, 0), x -> x.distort(0, 31, 0), x -> x.duration(0, -1), x -> x.length(3),
            x -> x.frameCount(3), x -> x.frame(0, 0, 5), x -> x.deviation(0, -1), x -> x.pressCount(3),
            x -> x.press(0, 0, 4), x -> x.strayCount(3), x -> x.neededTolerance(3), x -> x.explain(0, 49, 0),
            x -> x.ghosts(60001)};
        for (Call call : calls) {
            refused(RICH, call, INVALID);
        }
    }

    @Says("A method that returns an error code changes nothing.")
    static void errors_anIllegalStateChangesNothing() {
        Setup space = RICH.then(train(2, 5));
        Call[] calls = {x -> x.learn(2), x -> x.clusters(2, 0), x -> x.addButton(0, 5), x -> x.send(2, 0, 5, 60),
            x -> x.sendShort(2, 0, 60), x -> x.overlay(0, 2, 0), x -> x.overlay(2, 0, 0)};
        for (Call call : calls) {
            refused(space, call, STATE);
        }
    }

    @Says("A method that returns an error code changes nothing.")
    static void errors_noRoomChangesNothing() {
        Call[] calls = {x -> x.addProtocol(0, 1, 0, 0), x -> x.addButton(0, 12), x -> x.appendCharacter(32),
            x -> x.send(1, 0, 5, 60), x -> x.sendShort(1, 0, 60), x -> x.overlay(1, 2, 60000)};
        for (Call call : calls) {
            refused(FULL, call, CAPACITY);
        }
    }

    @Says("A method that returns an error code changes nothing.")
    static void errors_aTextWithAnErrorChangesNothing() {
        refused(RICH, x -> x.load(), -10 - 6);
        refused(FULL, x -> x.load(), -10 - 160);
    }

    @Says("If several error codes apply, the one that is named first in the description of the method is returned")
    static void errors_invalidArgumentsGoFirst() {
        Call[] full = {x -> x.addProtocol(3, 1, 0, 0), x -> x.addButton(0, 65536), x -> x.appendCharacter(256),
            x -> x.append(1, 60001), x -> x.send(1, 0, 65536, 60), x -> x.sendShort(1, 6, 60), x -> x.learn(3),
            x -> x.overlay(1, 1, 60000), x -> x.overlay(1, 2, 60001), x -> x.clusters(2, 2)};
        for (Call call : full) {
            refused(FULL, call, INVALID);
        }
    }

    @Says("the one that is named first in the description of the method is returned")
    static void errors_illegalStatesGoBeforeNoRoom() {
        refused(FULL, x -> x.addButton(0, 11), STATE);
        refused(FULL, x -> x.learn(2), STATE);
        refused(FULL.then(train(1, 60)), x -> x.send(1, 0, 5, 60), STATE);
        refused(FULL.then(train(1, 60)), x -> x.sendShort(1, 0, 60), STATE);
        refused(FULL.then(train(1, 60)), x -> x.overlay(1, 2, 60000), STATE);
        refused(FULL.then(train(2, 60)), x -> x.overlay(1, 2, 60000), STATE);
    }

    @Says("NONE is no error, and it is returned only if no error code applies.")
    static void errors_noneOnlyIfNoErrorCodeApplies() {
        Call[] wrong = {x -> x.duration(3, 0), x -> x.duration(0, -1), x -> x.frame(0, 0, 5), x -> x.frame(0, -1, 0),
            x -> x.frame(3, 0, 0), x -> x.deviation(0, -1), x -> x.deviation(3, 0), x -> x.press(0, 0, 4),
            x -> x.press(0, -1, 0), x -> x.press(3, 0, 0), x -> x.neededTolerance(3), x -> x.explain(3, 50, 0),
            x -> x.explain(0, 49, 0), x -> x.explain(0, 50, 3)};
        for (Call call : wrong) {
            refused(NEW, call, INVALID);
        }
        Call[] none = {x -> x.duration(0, 0), x -> x.frame(0, 0, 0), x -> x.deviation(0, 0), x -> x.press(0, 0, 0),
            x -> x.explain(0, 50, 0)};
        for (Call call : none) {
            refused(NEW, call, NONE);
        }
    }

    @Says("- `INVALID_ARGUMENT = -1`: An argument is out of range, or names something that does not exist.")
    static void errors_invalidArgumentAlsoForWhatDoesNotExist() {
        refused(RICH, x -> x.protocol(3, 0), -1);
        refused(RICH, x -> x.button(3, 0), -1);
        refused(RICH, x -> x.setLengths(3, 50, 60, 70, 80, 90), -1);
        refused(RICH, x -> x.addButton(3, 0), -1);
        refused(RICH, x -> x.send(0, 3, 0, 60), -1);
        refused(RICH, x -> x.sendShort(0, 3, 60), -1);
        refused(RICH, x -> x.length(3), -1);
    }

    @Says("- `ILLEGAL_STATE = -2`: The call is not possible in the present state.")
    static void errors_illegalStateIsMinus2() {
        refused(NEW, x -> x.undo(), -2);
        refused(NEW, x -> x.learn(0), -2);
    }

    @Says("- `CAPACITY_EXCEEDED = -3`: There is no room.")
    static void errors_capacityExceededIsMinus3() {
        refused(FULL, x -> x.addProtocol(0, 1, 0, 0), -3);
        refused(FULL, x -> x.appendCharacter(32), -3);
    }

    @Says("- `NONE = -9`: There is no such value.")
    static void errors_noneIsMinus9() {
        refused(NEW, x -> x.duration(0, 0), -9);
        refused(NEW, x -> x.frame(0, 0, 0), -9);
    }
}
