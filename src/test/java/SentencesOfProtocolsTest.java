/** The sections Protocols (but for decoding), Buttons and The public face, and promises 1 to 5, 8 and 9. */
public final class SentencesOfProtocolsTest extends Sentences {
    private static final Setup SIX = times(6, protocol(DISTANCE, 4, HIGHEST, WHOLE));
    private static final Setup ONE = protocol(DISTANCE, 4, HIGHEST, WHOLE);
    /** The codes 0 to 11 of protocol 0. */
    private static final Setup TWELVE = ONE.then(SentencesOfProtocolsTest::addTwelve);

    public static void main(String[] args) {
        runAll(SentencesOfProtocolsTest.class);
    }

    private static void addTwelve(PulseRemote x) {
        for (int code = 0; code < 12; code++) {
            x.addButton(0, code);
        }
    }

    /** The frame of a code, sent into an empty train. */
    private static void sent(Setup setup, int code, int... durations) {
        PulseRemote x = made(setup);
        due("the number of durations", x.send(0, 0, code, 60), durations.length);
        dueTrain(x, 0, durations);
    }

    // ---- What it is, The public face

    @Says("An object is used for at most 512 calls after it has been made")
    static void whatItIs_the512thCallIsStillAnswered() {
        Setup calls = x -> {
            for (int i = 1; i <= 200; i++) {
                x.append(0, i);
                x.append(1, 2 * i);
            }
            for (int i = 1; i <= 111; i++) {
                x.appendCharacter(32);
            }
        };
        answers(calls, x -> x.duration(1, 199), 400);
        answers(calls, x -> x.count(2), 111);
        answers(calls, x -> x.appendCharacter(32), 112);
        answers(calls, x -> x.append(2, 60000), 1);
        answers(calls, x -> x.append(0, 1), CAPACITY);
        answers(calls, x -> x.addProtocol(0, 1, 0, 0), 0);
        answers(calls, x -> x.load(), 0);
        answers(calls, x -> x.undo(), 5);
    }

    @Says("public static final int INVALID_ARGUMENT = -1; public static final int ILLEGAL_STATE = -2; "
            + "public static final int CAPACITY_EXCEEDED = -3; public static final int NONE = -9;")
    static void thePublicFace_constants() {
        due("INVALID_ARGUMENT", PulseRemote.INVALID_ARGUMENT, -1);
        due("ILLEGAL_STATE", PulseRemote.ILLEGAL_STATE, -2);
        due("CAPACITY_EXCEEDED", PulseRemote.CAPACITY_EXCEEDED, -3);
        due("NONE", PulseRemote.NONE, -9);
    }

    // ---- 1: a new object

    @Says("Creates a decoder without protocols and buttons, with empty trains and an empty text.")
    static void promise01_withoutProtocols() {
        answers(NEW, x -> x.count(0), 0);
        answers(NEW, x -> x.protocol(0, 0), INVALID);
        answers(NEW, x -> x.addProtocol(0, 1, 0, 0), 0);
    }

    @Says("Creates a decoder without protocols and buttons, with empty trains and an empty text.")
    static void promise01_withoutButtons() {
        answers(NEW, x -> x.count(1), 0);
        answers(NEW, x -> x.button(0, 0), INVALID);
        answers(ONE, x -> x.addButton(0, 1), 0);
    }

    @Says("Creates a decoder without protocols and buttons, with empty trains and an empty text.")
    static void promise01_withEmptyTrains() {
        for (int slot = 0; slot < 3; slot++) {
            int of = slot;
            answers(NEW, x -> x.length(of), 0);
            answers(NEW, x -> x.append(of, 5), 1);
        }
    }

    @Says("Creates a decoder without protocols and buttons, with empty trains and an empty text.")
    static void promise01_withAnEmptyText() {
        answers(NEW, x -> x.count(2), 0);
        answers(NEW, x -> x.clearText(), 0);
        answers(NEW, x -> x.load(), 0);
    }

    @Says("Creates a decoder")
    static void promise01_withoutSavedStates() {
        answers(NEW, x -> x.count(3), 0);
        refused(NEW, x -> x.undo(), STATE);
    }

    @Says("Creates a decoder")
    static void promise01_eachDecoderIsOneOfItsOwn() {
        PulseRemote x = made(RICH);
        PulseRemote y = new PulseRemote();
        due("its protocols", y.count(0), 0);
        due("its states", y.count(3), 0);
        due("its train", y.length(0), 0);
        due("the protocols of the other one", x.count(0), 3);
    }

    // ---- Protocols

    @Says("There are at most 6 protocols, numbered from 0 in the order in which they were added.")
    static void protocols_atMost6() {
        answers(times(5, ONE), x -> x.addProtocol(0, 1, 0, 0), 5);
        refused(SIX, x -> x.addProtocol(0, 1, 0, 0), CAPACITY);
        answers(SIX, x -> x.count(0), 6);
    }

    @Says("numbered from 0 in the order in which they were added.")
    static void protocols_numberedFrom0() {
        PulseRemote x = new PulseRemote();
        for (int number = 0; number < 6; number++) {
            due("the number", x.addProtocol(number % 3, number + 1, 0, 0), number);
        }
        for (int number = 0; number < 6; number++) {
            due("the kind", x.protocol(number, 0), number % 3);
            due("the bits", x.protocol(number, 6), number + 1);
        }
    }

    @Says("three lengths A, B and C, a number of bits from 1 to 16, an order and a repetition.")
    static void protocols_bitsFrom1To16() {
        for (int kind = 0; kind < 3; kind++) {
            int of = kind;
            between(RICH, (x, bits) -> x.addProtocol(of, bits, 0, 0), 1, 3, 16, 3);
        }
        sent(protocol(DISTANCE, 1, HIGHEST, WHOLE), 1, 900, 450, 100, 300, 100);
        answers(protocol(DISTANCE, 16, HIGHEST, WHOLE), x -> x.send(0, 0, 65535, 60), 35);
    }

    @Says("The kind is 0 distance, 1 width or 2 phase.")
    static void protocols_kinds() {
        sent(protocol(0, 2, HIGHEST, WHOLE), 1, 900, 450, 100, 100, 100, 300, 100);
        sent(protocol(1, 2, HIGHEST, WHOLE), 1, 900, 450, 100, 100, 300);
        sent(protocol(2, 2, HIGHEST, WHOLE, 900, 450, 100, 0, 0), 1, 900, 550, 200);
    }

    @Says("H, S and A are 50 to 20000")
    static void protocols_headersAndA() {
        for (int kind = 0; kind < 3; kind++) {
            Setup setup = protocol(kind, 4, HIGHEST, SHORT);
            int b = kind == PHASE ? 0 : 60;
            int c = kind == PHASE ? 0 : 70;
            between(setup, (x, h) -> x.setLengths(0, h, 80, 90, b, c), 50, 100, 20000, 100);
            between(setup, (x, s) -> x.setLengths(0, 80, s, 90, b, c), 50, 100, 20000, 100);
            between(setup, (x, a) -> x.setLengths(0, 80, 90, a, b, c), 50, 100, 20000, 100);
        }
    }

    @Says("B and C are 50 to 20000 and different, but 0 for phase.")
    static void protocols_bAndCFrom50To20000() {
        for (int kind = 0; kind < 2; kind++) {
            Setup setup = protocol(kind, 4, HIGHEST, SHORT);
            between(setup, (x, b) -> x.setLengths(0, 80, 90, 60, b, 70), 50, 100, 20000, 100);
            between(setup, (x, c) -> x.setLengths(0, 80, 90, 60, 70, c), 50, 100, 20000, 100);
            refused(setup, x -> x.setLengths(0, 80, 90, 60, 0, 70), INVALID);
            refused(setup, x -> x.setLengths(0, 80, 90, 60, 70, 0), INVALID);
        }
    }

    @Says("B and C are 50 to 20000 and different, but 0 for phase.")
    static void protocols_bAndCDifferent() {
        for (int kind = 0; kind < 2; kind++) {
            Setup setup = protocol(kind, 4, HIGHEST, SHORT);
            for (int both : new int[] {0, 50, 60, 70, 20000}) {
                refused(setup, x -> x.setLengths(0, 80, 90, 60, both, both), INVALID);
            }
            answers(setup, x -> x.setLengths(0, 80, 90, 60, 71, 70), 100);
            answers(setup, x -> x.setLengths(0, 80, 90, 60, 70, 71), 100);
            answers(setup, x -> x.setLengths(0, 70, 70, 70, 70, 71), 100);
            answers(setup, x -> x.setLengths(0, 71, 71, 71, 70, 71), 100);
        }
    }

    @Says("B and C are 50 to 20000 and different, but 0 for phase.")
    static void protocols_bAndCAre0ForPhase() {
        Setup setup = protocol(PHASE, 4, HIGHEST, SHORT);
        between(setup, (x, b) -> x.setLengths(0, 80, 90, 60, b, 0), 0, 100, 0, 100);
        between(setup, (x, c) -> x.setLengths(0, 80, 90, 60, 0, c), 0, 100, 0, 100);
        refused(setup, x -> x.setLengths(0, 80, 90, 60, 60, 70), INVALID);
        refused(setup, x -> x.setLengths(0, 80, 90, 60, 60, 0), INVALID);
        refused(setup, x -> x.setLengths(0, 80, 90, 60, 0, 60), INVALID);
    }

    @Says("The order is 0 (the highest bit of a code is sent first) or 1 (the lowest bit first).")
    static void protocols_orders() {
        sent(protocol(WIDTH, 4, 0, WHOLE), 8, 900, 450, 300, 100, 100, 100, 100, 100, 100);
        sent(protocol(WIDTH, 4, 1, WHOLE), 8, 900, 450, 100, 100, 100, 100, 100, 100, 300);
        sent(protocol(DISTANCE, 2, 0, WHOLE), 2, 900, 450, 100, 300, 100, 100, 100);
        sent(protocol(DISTANCE, 2, 1, WHOLE), 2, 900, 450, 100, 100, 100, 300, 100);
        sent(protocol(PHASE, 2, 0, WHOLE), 2, 900, 450, 100, 200, 100);
        sent(protocol(PHASE, 2, 1, WHOLE), 2, 900, 550, 200);
    }

    @Says("The repetition is 0 whole, 1 short or 2 toggled.")
    static void protocols_repetitions() {
        // pressed twice with the same code, then with the other first bit: presses, and the identity of 7
        int[][] due = {{2, 7}, {3, 7}, {2, 3}};
        for (int repetition = 0; repetition < 3; repetition++) {
            PulseRemote x = made(protocol(WIDTH, 3, HIGHEST, repetition));
            x.send(0, 0, 7, 60);
            x.send(0, 0, 7, 20000);
            x.send(0, 0, 3, 20000);
            x.sendShort(0, 0, 20000);
            x.addButton(0, 7);
            due("presses", x.pressCount(0), due[repetition][0]);
            due("the identity", x.button(0, 1), due[repetition][1]);
            due("whether the short frame is read", x.frame(0, 3, 4), repetition == SHORT ? 1 : NONE);
        }
    }

    @Says("Its frame consists of the mark H, the space S, and then, by the kind: - distance: for each bit")
    static void protocols_framesBeginWithTheHeader() {
        for (int[] header : new int[][] {{50, 20000}, {9000, 4500}, {20000, 50}}) {
            for (int kind = 0; kind < 3; kind++) {
                int other = kind == PHASE ? 0 : 60;
                PulseRemote x = made(protocol(kind, 3, HIGHEST, WHOLE, header[0], header[1], 100, other, 2 * other));
                x.send(0, 0, 7, 60);
                due("the mark", x.duration(0, 0), header[0]);
                due("the space", x.duration(0, 1), header[1]);
            }
        }
    }

    @Says("A code is a number with as many bits as the protocol has.")
    static void protocols_theLeastAndTheGreatestCode() {
        for (int bits = 1; bits <= 16; bits++) {
            Setup setup = protocol(DISTANCE, bits, HIGHEST, WHOLE);
            int greatest = (1 << bits) - 1;
            answers(setup, x -> x.addButton(0, 0), 0);
            answers(setup, x -> x.addButton(0, greatest), 0);
            refused(setup, x -> x.addButton(0, -1), INVALID);
            refused(setup, x -> x.addButton(0, greatest + 1), INVALID);
            answers(setup, x -> x.send(0, 0, greatest, 60), 2 * bits + 3);
            refused(setup, x -> x.send(0, 0, greatest + 1, 60), INVALID);
        }
    }

    @Says("- distance: for each bit in the order the mark A and a space, B for 0 and C for 1; then the mark A;")
    static void protocols_distanceFrames() {
        Setup one = protocol(DISTANCE, 1, HIGHEST, WHOLE, 901, 452, 103, 204, 305);
        sent(one, 0, 901, 452, 103, 204, 103);
        sent(one, 1, 901, 452, 103, 305, 103);
        int[] zeros = new int[35];
        int[] ones = new int[35];
        for (int i = 2; i < 35; i++) {
            zeros[i] = i % 2 == 0 ? 103 : 204;
            ones[i] = i % 2 == 0 ? 103 : 305;
        }
        zeros[0] = ones[0] = 901;
        zeros[1] = ones[1] = 452;
        Setup sixteen = protocol(DISTANCE, 16, LOWEST, WHOLE, 901, 452, 103, 204, 305);
        sent(sixteen, 0, zeros);
        sent(sixteen, 65535, ones);
        ones[3] = 204;
        sent(sixteen, 65534, ones);
    }

    @Says("- width: for each bit in the order a mark, B for 0 and C for 1, with the space A between two bits;")
    static void protocols_widthFrames() {
        Setup one = protocol(WIDTH, 1, HIGHEST, WHOLE, 901, 452, 103, 204, 305);
        sent(one, 0, 901, 452, 204);
        sent(one, 1, 901, 452, 305);
        Setup two = protocol(WIDTH, 2, HIGHEST, WHOLE, 901, 452, 103, 204, 305);
        sent(two, 1, 901, 452, 204, 103, 305);
        int[] ones = new int[33];
        for (int i = 2; i < 33; i++) {
            ones[i] = i % 2 == 0 ? 305 : 103;
        }
        ones[0] = 901;
        ones[1] = 452;
        Setup sixteen = protocol(WIDTH, 16, HIGHEST, WHOLE, 901, 452, 103, 204, 305);
        sent(sixteen, 65535, ones);
        ones[32] = 204;
        sent(sixteen, 65534, ones);
    }

    @Says("- phase: for each bit in the order the mark A and the space A for 1, or the space A and the mark A for 0;")
    static void protocols_phaseFramesOfEqualBits() {
        sent(protocol(PHASE, 1, HIGHEST, WHOLE), 0, 900, 550, 100);
        sent(protocol(PHASE, 1, HIGHEST, WHOLE), 1, 900, 450, 100);
        int[] frame = new int[33];
        java.util.Arrays.fill(frame, 100);
        frame[0] = 900;
        frame[1] = 550;
        sent(protocol(PHASE, 16, HIGHEST, WHOLE), 0, frame);
        frame[1] = 450;
        sent(protocol(PHASE, 16, HIGHEST, WHOLE), 65535, frame);
    }

    @Says("successive marks, and successive spaces (also S), are one duration with the sum of their lengths")
    static void protocols_phaseFramesOfChangingBits() {
        int[] zeroFirst = new int[17];
        java.util.Arrays.fill(zeroFirst, 200);
        zeroFirst[0] = 900;
        zeroFirst[1] = 550;
        sent(protocol(PHASE, 16, HIGHEST, WHOLE), 0x5555, zeroFirst);
        sent(protocol(PHASE, 16, LOWEST, WHOLE), 0xaaaa, zeroFirst);
        int[] oneFirst = new int[19];
        java.util.Arrays.fill(oneFirst, 200);
        oneFirst[0] = 900;
        oneFirst[1] = 450;
        oneFirst[2] = 100;
        oneFirst[18] = 100;
        sent(protocol(PHASE, 16, HIGHEST, WHOLE), 0xaaaa, oneFirst);
        sent(protocol(PHASE, 2, HIGHEST, WHOLE, 20000, 20000, 20000, 0, 0), 1, 20000, 40000, 40000);
    }

    @Says("a space at the end is left out.")
    static void protocols_phaseFramesEndWithAMark() {
        sent(protocol(PHASE, 2, HIGHEST, WHOLE), 3, 900, 450, 100, 100, 100);
        sent(protocol(PHASE, 2, HIGHEST, WHOLE), 1, 900, 550, 200);
        sent(protocol(PHASE, 2, HIGHEST, WHOLE), 2, 900, 450, 100, 200, 100);
        sent(protocol(PHASE, 2, HIGHEST, WHOLE), 0, 900, 550, 100, 100, 100);
    }

    @Says("The short frame of a protocol consists of the mark H, the space S / 2 (rounded down) and the mark A.")
    static void protocols_shortFrames() {
        int[][] halves = {{50, 25}, {51, 25}, {450, 225}, {451, 225}, {19999, 9999}, {20000, 10000}};
        for (int[] half : halves) {
            for (int kind = 0; kind < 3; kind++) {
                int other = kind == PHASE ? 0 : 70;
                Setup setup = protocol(kind, 16, LOWEST, SHORT, 901, half[0], 103, other, 2 * other);
                PulseRemote x = made(setup.then(y -> y.sendShort(1, 0, 60)));
                dueTrain(x, 1, 901, half[1], 103);
            }
        }
    }

    // ---- 2: addProtocol

    @Says("Adds a protocol with H 9000, S 4500, A 560, B 560 and C 1690 (for phase, B and C are 0).")
    static void promise02_theLengthsAtFirst() {
        dueProtocol(made(x -> x.addProtocol(0, 1, 0, 0)), 0, 0, 9000, 4500, 560, 560, 1690, 1, 0, 0);
        dueProtocol(made(x -> x.addProtocol(1, 16, 1, 1)), 0, 1, 9000, 4500, 560, 560, 1690, 16, 1, 1);
        dueProtocol(made(x -> x.addProtocol(2, 9, 0, 2)), 0, 2, 9000, 4500, 560, 0, 0, 9, 0, 2);
    }

    @Says("Adds a protocol with H 9000, S 4500, A 560, B 560 and C 1690")
    static void promise02_notTheLengthsOfOneThatWasThereBefore() {
        Setup undone = protocol(PHASE, 4, HIGHEST, WHOLE).then(protocol(PHASE, 5, LOWEST, SHORT)).then(x -> {
            x.undo();
            x.undo();
            x.undo();
            x.undo();
            x.addProtocol(1, 3, 0, 0);
        });
        dueProtocol(made(undone), 0, 1, 9000, 4500, 560, 560, 1690, 3, 0, 0);
    }

    @Says("- `kind`: 0 to 2")
    static void promise02_kindFrom0To2() {
        between(RICH, (x, kind) -> x.addProtocol(kind, 4, 0, 0), 0, 3, 2, 3);
        dueProtocol(made(x -> x.addProtocol(1, 4, 0, 0)), 0, 1);
    }

    @Says("- `bits`: 1 to 16")
    static void promise02_bitsFrom1To16() {
        between(RICH, (x, bits) -> x.addProtocol(0, bits, 0, 0), 1, 3, 16, 3);
        answers(x -> x.addProtocol(0, 1, 0, 0), x -> x.protocol(0, 6), 1);
        answers(x -> x.addProtocol(0, 16, 0, 0), x -> x.protocol(0, 6), 16);
    }

    @Says("- `order`: 0 or 1")
    static void promise02_order0Or1() {
        between(RICH, (x, order) -> x.addProtocol(0, 4, order, 0), 0, 3, 1, 3);
        answers(x -> x.addProtocol(0, 1, 1, 0), x -> x.protocol(0, 7), 1);
    }

    @Says("- `repetition`: 0 to 2")
    static void promise02_repetitionFrom0To2() {
        between(RICH, (x, repetition) -> x.addProtocol(0, 4, 0, repetition), 0, 3, 2, 3);
        answers(x -> x.addProtocol(0, 1, 0, 1), x -> x.protocol(0, 8), 1);
        answers(x -> x.addProtocol(0, 1, 0, 2), x -> x.protocol(0, 8), 2);
    }

    @Says("Returns the number of the protocol")
    static void promise02_answersTheNumber() {
        for (int before = 0; before < 6; before++) {
            answers(times(before, ONE), x -> x.addProtocol(2, 1, 1, 2), before);
        }
    }

    @Says("CAPACITY_EXCEEDED if there are 6 protocols.")
    static void promise02_noRoomWith6() {
        answers(times(5, ONE), x -> x.addProtocol(2, 16, 1, 2), 5);
        for (int kind = 0; kind < 3; kind++) {
            int of = kind;
            refused(SIX, x -> x.addProtocol(of, 16, 1, 2), CAPACITY);
        }
        answers(SIX.then(x -> x.undo()).then(x -> x.undo()), x -> x.addProtocol(0, 1, 0, 0), 5);
    }

    @Says("INVALID_ARGUMENT if an argument is out of range; CAPACITY_EXCEEDED if there are 6 protocols.")
    static void promise02_aWrongArgumentGoesBeforeNoRoom() {
        refused(SIX, x -> x.addProtocol(3, 1, 0, 0), INVALID);
        refused(SIX, x -> x.addProtocol(0, 17, 0, 0), INVALID);
        refused(SIX, x -> x.addProtocol(0, 1, 2, 0), INVALID);
        refused(SIX, x -> x.addProtocol(0, 1, 0, 3), INVALID);
        refused(SIX, x -> x.addProtocol(-1, 0, -1, -1), INVALID);
    }

    // ---- 3: setLengths

    @Says("Sets the lengths of a protocol.")
    static void promise03_ofThatProtocolAlone() {
        PulseRemote x = made(times(3, ONE).then(y -> y.setLengths(1, 51, 52, 53, 54, 55)));
        dueProtocol(x, 0, 0, 900, 450, 100, 100, 300, 4, 0, 0);
        dueProtocol(x, 1, 0, 51, 52, 53, 54, 55, 4, 0, 0);
        dueProtocol(x, 2, 0, 900, 450, 100, 100, 300, 4, 0, 0);
    }

    @Says("- `protocol`: number of a protocol")
    static void promise03_protocolFrom0ToTheLast() {
        between(SIX, (x, protocol) -> x.setLengths(protocol, 80, 90, 60, 70, 71), 0, 100, 5, 100);
        between(ONE, (x, protocol) -> x.setLengths(protocol, 80, 90, 60, 70, 71), 0, 100, 0, 100);
        refused(NEW, x -> x.setLengths(0, 80, 90, 60, 70, 71), INVALID);
    }

    @Says("- `h`: header mark")
    static void promise03_headerMarkFrom50To20000() {
        between(RICH, (x, h) -> x.setLengths(1, h, 90, 60, 70, 71), 50, 100, 20000, 100);
        answers(ONE.then(x -> x.setLengths(0, 50, 90, 60, 70, 71)), x -> x.protocol(0, 1), 50);
        answers(ONE.then(x -> x.setLengths(0, 20000, 90, 60, 70, 71)), x -> x.protocol(0, 1), 20000);
    }

    @Says("- `s`: header space")
    static void promise03_headerSpaceFrom50To20000() {
        between(RICH, (x, s) -> x.setLengths(1, 90, s, 60, 70, 71), 50, 100, 20000, 100);
        answers(ONE.then(x -> x.setLengths(0, 90, 50, 60, 70, 71)), x -> x.protocol(0, 2), 50);
        answers(ONE.then(x -> x.setLengths(0, 90, 20000, 60, 70, 71)), x -> x.protocol(0, 2), 20000);
    }

    @Says("- `a`: length A")
    static void promise03_aFrom50To20000() {
        between(RICH, (x, a) -> x.setLengths(1, 90, 80, a, 70, 71), 50, 100, 20000, 100);
        answers(ONE.then(x -> x.setLengths(0, 90, 80, 50, 70, 71)), x -> x.protocol(0, 3), 50);
        answers(ONE.then(x -> x.setLengths(0, 90, 80, 20000, 70, 71)), x -> x.protocol(0, 3), 20000);
    }

    @Says("- `b`: length B")
    static void promise03_bFrom50To20000() {
        between(RICH, (x, b) -> x.setLengths(1, 90, 80, 60, b, 71), 50, 100, 20000, 100);
        between(RICH, (x, b) -> x.setLengths(2, 90, 80, 60, b, 0), 0, 560, 0, 560);
        answers(ONE.then(x -> x.setLengths(0, 90, 80, 60, 50, 71)), x -> x.protocol(0, 4), 50);
        answers(ONE.then(x -> x.setLengths(0, 90, 80, 60, 20000, 71)), x -> x.protocol(0, 4), 20000);
    }

    @Says("- `c`: length C")
    static void promise03_cFrom50To20000() {
        between(RICH, (x, c) -> x.setLengths(1, 90, 80, 60, 71, c), 50, 100, 20000, 100);
        between(RICH, (x, c) -> x.setLengths(2, 90, 80, 60, 0, c), 0, 560, 0, 560);
        answers(ONE.then(x -> x.setLengths(0, 90, 80, 60, 71, 50)), x -> x.protocol(0, 5), 50);
        answers(ONE.then(x -> x.setLengths(0, 90, 80, 60, 71, 20000)), x -> x.protocol(0, 5), 20000);
    }

    @Says("Returns the previous A")
    static void promise03_answersThePreviousA() {
        PulseRemote x = made(y -> y.addProtocol(0, 4, 0, 0));
        due("at first", x.setLengths(0, 900, 800, 50, 60, 70), 560);
        due("after 50", x.setLengths(0, 900, 800, 20000, 60, 70), 50);
        due("after a refused one", x.setLengths(0, 900, 800, 20001, 60, 70), INVALID);
        due("after 20000", x.setLengths(0, 900, 800, 20000, 60, 70), 20000);
    }

    @Says("INVALID_ARGUMENT if there is no such protocol, or a length is not possible.")
    static void promise03_ofARefusedCallNoLengthIsSet() {
        refused(RICH, x -> x.setLengths(0, 80, 90, 60, 70, 49), INVALID);
        refused(RICH, x -> x.setLengths(0, 80, 90, 60, 49, 70), INVALID);
        refused(RICH, x -> x.setLengths(0, 80, 90, 60, 70, 70), INVALID);
        refused(RICH, x -> x.setLengths(0, 49, 90, 60, 70, 80), INVALID);
        refused(RICH, x -> x.setLengths(2, 80, 90, 60, 70, 80), INVALID);
        refused(RICH, x -> x.setLengths(1, 80, 90, 60, 0, 0), INVALID);
    }

    // ---- 4: protocol

    @Says("Returns a property of a protocol. - `protocol`: number of a protocol")
    static void promise04_protocolFrom0ToTheLast() {
        between(SIX, (x, protocol) -> x.protocol(protocol, 3), 0, 100, 5, 100);
        between(RICH, (x, protocol) -> x.protocol(protocol, 0), 0, 0, 2, 2);
        refused(NEW, x -> x.protocol(0, 0), INVALID);
        refused(ONE.then(x -> x.undo()).then(x -> x.undo()), x -> x.protocol(0, 0), INVALID);
    }

    @Says("- `what`: 0 kind, 1 H, 2 S, 3 A, 4 B, 5 C, 6 bits, 7 order, 8 repetition Returns the property")
    static void promise04_whatFrom0To8() {
        between(RICH, (x, what) -> x.protocol(1, what), 0, 1, 8, 2);
        dueProtocol(made(protocol(WIDTH, 7, 1, TOGGLED, 101, 102, 103, 104, 105)), 0, 1, 101, 102, 103, 104, 105,
                7, 1, 2);
    }

    @Says("INVALID_ARGUMENT if there is no such protocol or what is out of range.")
    static void promise04_bothOutOfRange() {
        refused(RICH, x -> x.protocol(3, 9), INVALID);
        refused(RICH, x -> x.protocol(-1, -1), INVALID);
    }

    // ---- 5: count

    @Says("- `what`: 0 protocols, 1 buttons, 2 characters of the text, 3 states that are saved for undo()")
    static void promise05_whatFrom0To3() {
        between(RICH, (x, what) -> x.count(what), 0, 3, 3, 6);
        answers(RICH, x -> x.count(1), 3);
        answers(RICH, x -> x.count(2), 6);
    }

    @Says("Returns the number")
    static void promise05_countsTheEmptyAndTheFull() {
        int[] full = {6, 12, 160, 6};
        Setup all = times(5, ONE).then(TWELVE).then(times(160, x -> x.appendCharacter(32)));
        for (int what = 0; what < 4; what++) {
            int of = what;
            answers(NEW, x -> x.count(of), 0);
            answers(all, x -> x.count(of), full[of]);
        }
    }

    @Says("Counts things.")
    static void promise05_countsUpAndDown() {
        PulseRemote x = made(ONE);
        due("protocols", x.count(0), 1);
        due("states", x.count(3), 2);
        x.addButton(0, 1);
        x.appendCharacter(32);
        due("buttons", x.count(1), 1);
        due("characters", x.count(2), 1);
        due("states", x.count(3), 3);
        x.undo();
        x.clearText();
        due("buttons", x.count(1), 0);
        due("characters", x.count(2), 0);
        due("states", x.count(3), 2);
        x.undo();
        x.undo();
        due("protocols", x.count(0), 0);
        due("states", x.count(3), 0);
    }

    @Says("INVALID_ARGUMENT if what is out of range.")
    static void promise05_whatOutOfRange() {
        refused(NEW, x -> x.count(-1), INVALID);
        refused(NEW, x -> x.count(4), INVALID);
    }

    // ---- Buttons, 8: addButton

    @Says("There are at most 12 buttons, numbered from 0 in the order in which they were added.")
    static void buttons_atMost12() {
        answers(TWELVE.then(x -> x.undo()), x -> x.addButton(0, 15), 11);
        refused(TWELVE, x -> x.addButton(0, 15), CAPACITY);
        answers(TWELVE, x -> x.count(1), 12);
    }

    @Says("numbered from 0 in the order in which they were added.")
    static void buttons_numberedFrom0() {
        PulseRemote x = made(times(2, ONE));
        for (int number = 0; number < 12; number++) {
            due("the number", x.addButton(number % 2, 15 - number), number);
        }
        for (int number = 0; number < 12; number++) {
            due("the protocol", x.button(number, 0), number % 2);
            due("the identity", x.button(number, 1), 15 - number);
        }
    }

    @Says("A button is a protocol and an identity; no two buttons are equal.")
    static void buttons_noTwoAreEqual() {
        Setup setup = times(2, ONE).then(x -> x.addButton(0, 5)).then(x -> x.addButton(0, 6));
        refused(setup, x -> x.addButton(0, 5), STATE);
        refused(setup, x -> x.addButton(0, 6), STATE);
        answers(setup, x -> x.addButton(1, 5), 2);
        answers(setup, x -> x.addButton(0, 7), 2);
        answers(setup.then(x -> x.undo()), x -> x.addButton(0, 6), 1);
    }

    @Says("- `protocol`: number of a protocol")
    static void promise08_protocolFrom0ToTheLast() {
        between(SIX, (x, protocol) -> x.addButton(protocol, 9), 0, 0, 5, 0);
        between(RICH, (x, protocol) -> x.addButton(protocol, 2), 0, 3, 2, 3);
        refused(NEW, x -> x.addButton(0, 0), INVALID);
    }

    @Says("- `code`: a code; the button gets its identity")
    static void promise08_codeFrom0ToTheGreatest() {
        between(protocol(WIDTH, 1, LOWEST, WHOLE), (x, code) -> x.addButton(0, code), 0, 0, 1, 0);
        between(protocol(PHASE, 16, LOWEST, WHOLE), (x, code) -> x.addButton(0, code), 0, 0, 65535, 0);
        between(RICH, (x, code) -> x.addButton(2, code), 0, 3, 31, 3);
    }

    @Says("the button gets its identity")
    static void promise08_theIdentityOfToggledCodes() {
        // bits, order, code, identity
        int[][] rows = {{1, 0, 1, 0}, {1, 1, 1, 0}, {1, 0, 0, 0}, {4, 0, 15, 7}, {4, 1, 15, 14}, {4, 0, 8, 0},
            {4, 1, 1, 0}, {4, 0, 7, 7}, {4, 1, 14, 14}, {16, 0, 65535, 32767}, {16, 1, 65535, 65534}};
        for (int[] row : rows) {
            Setup setup = protocol(DISTANCE, row[0], row[1], TOGGLED).then(x -> x.addButton(0, row[2]));
            answers(setup, x -> x.button(0, 1), row[3]);
        }
    }

    @Says("the button gets its identity")
    static void promise08_theIdentityOfOtherCodesIsTheCode() {
        for (int repetition : new int[] {WHOLE, SHORT}) {
            for (int order = 0; order < 2; order++) {
                Setup setup = protocol(DISTANCE, 4, order, repetition).then(x -> x.addButton(0, 15));
                answers(setup, x -> x.button(0, 1), 15);
            }
        }
    }

    @Says("Adds a button.")
    static void promise08_addsItBehindTheOthers() {
        PulseRemote x = made(RICH.then(y -> y.addButton(2, 31)));
        due("buttons", x.count(1), 4);
        due("its protocol", x.button(3, 0), 2);
        due("its identity", x.button(3, 1), 31);
        due("the identity of the one before", x.button(2, 1), 4);
    }

    @Says("Returns the number of the button")
    static void promise08_answersTheNumber() {
        PulseRemote x = made(ONE);
        for (int number = 0; number < 12; number++) {
            due("the number", x.addButton(0, number + 3), number);
        }
    }

    @Says("INVALID_ARGUMENT if there is no such protocol, or the code does not have so few bits")
    static void promise08_aCodeWithMoreBitsIsRefused() {
        refused(RICH, x -> x.addButton(0, 16), INVALID);
        refused(RICH, x -> x.addButton(1, 8), INVALID);
        refused(RICH, x -> x.addButton(2, 32), INVALID);
        refused(RICH, x -> x.addButton(2, -1), INVALID);
        answers(RICH, x -> x.addButton(0, 15), 3);
        answers(RICH, x -> x.addButton(1, 3), 3);
    }

    @Says("ILLEGAL_STATE if there is this button already")
    static void promise08_thisButtonAlready() {
        refused(RICH, x -> x.addButton(0, 5), STATE);
        refused(RICH, x -> x.addButton(1, 4), STATE);
        refused(RICH, x -> x.addButton(1, 7), STATE);
        refused(protocol(WIDTH, 1, LOWEST, TOGGLED).then(x -> x.addButton(0, 0)), x -> x.addButton(0, 1), STATE);
        answers(RICH, x -> x.addButton(1, 2), 3);
    }

    @Says("CAPACITY_EXCEEDED if there are 12 buttons.")
    static void promise08_noRoomWith12() {
        answers(TWELVE.then(x -> x.undo()), x -> x.addButton(0, 12), 11);
        refused(TWELVE, x -> x.addButton(0, 12), CAPACITY);
        refused(TWELVE.then(protocol(WIDTH, 1, LOWEST, TOGGLED)), x -> x.addButton(1, 0), CAPACITY);
    }

    @Says("INVALID_ARGUMENT if there is no such protocol, or the code does not have so few bits; "
            + "ILLEGAL_STATE if there is this button already; CAPACITY_EXCEEDED if there are 12 buttons.")
    static void promise08_theErrorThatIsNamedFirst() {
        refused(TWELVE, x -> x.addButton(1, 0), INVALID);
        refused(TWELVE, x -> x.addButton(0, 16), INVALID);
        refused(TWELVE, x -> x.addButton(0, 0), STATE);
        refused(TWELVE, x -> x.addButton(0, 11), STATE);
    }

    // ---- 9: button

    @Says("Returns a part of a button. - `button`: number of a button")
    static void promise09_buttonFrom0ToTheLast() {
        between(TWELVE, (x, button) -> x.button(button, 1), 0, 0, 11, 11);
        between(RICH, (x, button) -> x.button(button, 0), 0, 0, 2, 1);
        refused(ONE, x -> x.button(0, 0), INVALID);
        refused(TWELVE.then(x -> x.undo()), x -> x.button(11, 0), INVALID);
    }

    @Says("- `part`: 0 its protocol, 1 its identity Returns the part")
    static void promise09_part0Or1() {
        between(RICH, (x, part) -> x.button(2, part), 0, 1, 1, 4);
        answers(RICH, x -> x.button(0, 1), 5);
        answers(RICH, x -> x.button(1, 1), 6);
    }

    @Says("INVALID_ARGUMENT if there is no such button or part is neither 0 nor 1.")
    static void promise09_bothOutOfRange() {
        refused(RICH, x -> x.button(3, 2), INVALID);
        refused(RICH, x -> x.button(-1, -1), INVALID);
    }
}
