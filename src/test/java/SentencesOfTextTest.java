/** The section Text, and promises 13 to 15. */
public final class SentencesOfTextTest extends Sentences {
    private static final String PROTO = "proto 0 900 450 100 100 300 4 0 0;";
    private static final String TOGGLED_PHASE = "proto2 50 50 50 0 0 4 0 2;";
    /** The shortest item for a protocol. */
    private static final String SHORTEST = "proto2 50 50 50 0 0 4 0 0;";
    private static final Setup FULL = text(" ".repeat(160));

    public static void main(String[] args) {
        runAll(SentencesOfTextTest.class);
    }

    /** RICH, but with this text. */
    private static Setup read(String text) {
        return RICH.then(x -> x.clearText()).then(text(text));
    }

    private static PulseRemote loaded(String text, int items) {
        PulseRemote x = made(read(text));
        due("load() of <" + text + ">", x.load(), items);
        return x;
    }

    private static void error(String text, int position) {
        PulseRemote x = made(read(text));
        due("load() of <" + text + ">", x.load(), -10 - position);
        due("the length of <" + text + "> then", x.count(2), text.length());
        refused(read(text), y -> y.load(), -10 - position);
    }

    /** "proto" with other numbers at one place: KIND is 0, H 1, .. REPETITION 8. */
    private static String proto(int kind, int place, String number) {
        String[] numbers = (kind + " 900 450 100 " + (kind == 2 ? "0 0" : "100 300") + " 4 0 0").split(" ");
        numbers[place] = number;
        return "proto " + String.join(" ", numbers) + ";";
    }

    /** The offset of the number at a place in what proto() tells. */
    private static int offset(int kind, int place) {
        int[] offsets = kind == 2 ? new int[] {6, 8, 12, 16, 20, 22, 24, 26, 28}
                : new int[] {6, 8, 12, 16, 20, 24, 28, 30, 32};
        return offsets[place];
    }

    private static void inRange(int kind, int place, int low, int high) {
        for (int number : new int[] {low, high}) {
            due("property " + place, loaded(proto(kind, place, "" + number), 1).protocol(0, place), number);
        }
        if (low > 0) {
            error(proto(kind, place, "" + (low - 1)), offset(kind, place));
        }
        error(proto(kind, place, "" + (high + 1)), offset(kind, place));
        error(proto(kind, place, "99999"), offset(kind, place));
    }

    // ---- Text

    @Says("Protocols and buttons can be read from a text of at most 160 characters, which is built one character "
            + "at a time")
    static void text_atMost160Characters() {
        answers(text(" ".repeat(159)), x -> x.appendCharacter(32), 160);
        refused(FULL, x -> x.appendCharacter(32), CAPACITY);
        loaded(" ".repeat(160 - PROTO.length()) + PROTO, 1);
        loaded(PROTO + " ".repeat(160 - PROTO.length()), 1);
    }

    @Says("a sequence of items, perhaps empty, each of which ends with \";\"")
    static void text_theEmptyText() {
        PulseRemote x = loaded("", 0);
        due("protocols", x.count(0), 0);
        due("buttons", x.count(1), 0);
    }

    @Says("a sequence of items, perhaps empty, each of which ends with \";\"")
    static void text_eachItemEndsWithASemicolon() {
        loaded(PROTO, 1);
        loaded(PROTO + PROTO, 2);
        loaded(PROTO + "button 0 5;", 2);
        error(PROTO.substring(0, 33), 33);
        error(PROTO.substring(0, 33) + PROTO, 33);
        error(PROTO + "button 0 5", 44);
        error(PROTO + "button 0 5button 0 6;", 44);
        error(PROTO + ";", 34);
        error(";" + PROTO, 0);
        error(PROTO + "button 0 5;;", 45);
    }

    @Says("\"proto\" KIND H S A B C BITS ORDER REPETITION adds a protocol")
    static void text_protoAddsAProtocol() {
        dueProtocol(loaded("proto 1 901 452 103 204 305 7 1 2;", 1), 0, 1, 901, 452, 103, 204, 305, 7, 1, 2);
        dueProtocol(loaded("proto 0 50 20000 50 20000 50 16 0 0;", 1), 0, 0, 50, 20000, 50, 20000, 50, 16, 0, 0);
        dueProtocol(loaded("proto 2 20000 50 20000 0 0 1 1 1;", 1), 0, 2, 20000, 50, 20000, 0, 0, 1, 1, 1);
    }

    @Says("\"button\" PROTOCOL CODE adds a button, with the identity of the code")
    static void text_buttonAddsAButtonWithTheIdentity() {
        PulseRemote x = loaded(PROTO + TOGGLED_PHASE + "button 1 15;button 0 15;button 1 8;", 5);
        int[][] buttons = {{1, 7}, {0, 15}, {1, 0}};
        for (int button = 0; button < 3; button++) {
            due("its protocol", x.button(button, 0), buttons[button][0]);
            due("its identity", x.button(button, 1), buttons[button][1]);
        }
        due("the identity, lowest bit first", loaded("proto 2 50 50 50 0 0 4 1 2;button 0 15;", 2).button(0, 1), 14);
    }

    @Says("by the grammar")
    static void text_aTooShortItem() {
        // a ";" in place of each of the numbers
        for (int place = 0; place < 9; place++) {
            int offset = offset(0, place);
            error(PROTO.substring(0, offset) + ";", offset);
            error(PROTO.substring(0, offset - 1) + ";", offset - 1);
        }
        error(PROTO + "button;", 40);
        error(PROTO + "button 0;", 42);
        error(PROTO + "button 0 ;", 43);
    }

    @Says("by the grammar")
    static void text_aTooLongItem() {
        error(PROTO.substring(0, 33) + " 0;", 34);
        error(PROTO + "button 0 5 0;", 45);
        error(PROTO + "button 0 5 button", 45);
    }

    @Says("by the grammar")
    static void text_aWordWhereANumberIsDue() {
        error("proto proto", 6);
        error("proto button", 6);
        error("protoo 0", 0);
        for (int place = 0; place < 9; place++) {
            error(PROTO.substring(0, offset(0, place)) + "a", offset(0, place));
        }
        error(PROTO + "button a", 41);
        error(PROTO + "button 0 z", 43);
    }

    @Says("by the grammar")
    static void text_aNumberWhereAWordIsDue() {
        error("0", 0);
        error("  7 proto", 2);
        error(PROTO + "5", 34);
        error(PROTO + " 5;", 35);
    }

    @Says("Tokens are words (longest sequences of letters a to z)")
    static void text_wordsAreLongestSequences() {
        for (String word : new String[] {"prot", "protos", "protoproto", "butto", "buttons", "protobutton", "a", "z",
            "aproto", "rproto", "p", "pro", "buttonproto"}) {
            error(word + " 0 900 450 100 100 300 4 0 0;", 0);
            error(PROTO + word, 34);
        }
        for (String word : new String[] {"proto", "button"}) {
            for (int i = 0; i < word.length(); i++) {
                for (char letter : new char[] {'a', 'z', (char) (word.charAt(i) - 1), (char) (word.charAt(i) + 1)}) {
                    error(word.substring(0, i) + letter + word.substring(i + 1) + " 0", 0);
                    error(word.substring(0, i) + letter + word.substring(i) + " 0", 0);
                }
            }
            error(word + "a 0", 0);
            error(word + "z 0", 0);
        }
        error("pro to 0 900 450 100 100 300 4 0 0;", 0);
        error(PROTO + "but ton 0 5;", 34);
    }

    @Says("numbers (longest sequences of digits)")
    static void text_numbersAreLongestSequences() {
        loaded("proto0 900 450 100 100 300 4 0 0;button0 9;", 2);
        error("proto0900 450 100 100 300 4 0 0;", 5);
        error("proto 0 900450 100 100 300 4 0 0;", 8);
        error("proto 0 9 00 450 100 100 300 4 0 0;", 8);
        error("proto 0 900 450 100 100 300 40 0;", 28);
    }

    @Says("any other character")
    static void text_anyOtherCharacter() {
        for (char c = 0; c < 256; c++) {
            String text = PROTO.substring(0, 33) + c + ";";
            boolean letter = c >= 'a' && c <= 'z';
            boolean digit = c >= '0' && c <= '9';
            if (c == ' ') {
                loaded(text, 1);
            } else if (c == ';') {
                error(text, 34);
            } else if (digit) {
                error(text, 32);
            } else {
                error(text, 33);
            }
            if (!letter && !digit && c != ' ') {
                error("proto" + c, 5);
                error(c + PROTO, 0);
                error("proto 0 " + c, 8);
                error("  " + c, 2);
                error("pro" + c, 0);
            }
        }
    }

    @Says("Spaces (code 32) may stand before, between and behind tokens")
    static void text_spacesBeforeBetweenAndBehindTokens() {
        loaded(" " + PROTO, 1);
        loaded(PROTO + " ", 1);
        loaded("   proto   0  900   450  100 100  300 4   0  0   ;   button   0   5   ;   ", 2);
        loaded(" ", 0);
        loaded(" ".repeat(160), 0);
        error("   ;", 3);
        error("proto    ;", 9);
    }

    @Says("they are necessary only between two numbers.")
    static void text_spacesOnlyBetweenTwoNumbers() {
        PulseRemote x = loaded("proto0 900 450 100 100 300 4 0 0;proto2 50 50 50 0 0 4 0 0;button1 15;button0 3;", 4);
        due("protocols", x.count(0), 2);
        due("the code", x.button(0, 1), 15);
        due("the protocol", x.button(1, 0), 0);
    }

    @Says("Spaces (code 32)")
    static void text_otherWhiteSpaceIsNone() {
        for (char c : new char[] {9, 10, 11, 12, 13, 28, 31, 33, 133, 160}) {
            error(c + PROTO, 0);
            error("proto" + c + "0", 5);
            error("proto 0" + c + "900", 7);
            error(PROTO + c, 34);
        }
    }

    @Says("A number has at most 5 digits")
    static void text_atMost5Digits() {
        loaded("proto 0 20000 12345 10000 19999 20000 4 0 0;", 1);
        loaded("proto 0 900 450 100 100 300 16 0 0;button 0 65535;", 2);
        error("proto 0 100000 450", 8);
        error("proto 0 900 450 100 100 300 16 0 0;button 0 655350;", 44);
        // these would be in range if they were cut off, or counted modulo 2 to the power of 32 or 64
        error("proto 0 4294967396", 8);
        error("proto 0 18446744073709551716", 8);
        error("proto 0 900900", 8);
        error("proto " + "0".repeat(150), 6);
        error("proto " + "9".repeat(154), 6);
    }

    @Says("and no leading zeros.")
    static void text_noLeadingZeros() {
        loaded(PROTO + "button 0 0;", 2);
        error("proto 00", 6);
        error("proto 01", 6);
        error("proto 0 0900", 8);
        error("proto 0 020000", 8);
        error(proto(0, 8, "00"), 32);
        error(proto(2, 4, "00"), 20);
        error(PROTO + "button 00 5;", 41);
        error(PROTO + "button 0 05;", 43);
        error(PROTO + "button 0 00;", 43);
        error(PROTO + "button 0 00000;", 43);
    }

    @Says("The text is read from left to right")
    static void text_theFirstErrorCounts() {
        error("proto 3 49 x", 6);
        error("proto 0 49 x", 8);
        error("proto 0 50 x", 11);
        error("x proto 3", 0);
        error("button 0 5;" + PROTO, 7);
    }

    @Says("beginning without protocols and buttons.")
    static void text_readBeginningWithoutProtocolsAndButtons() {
        // RICH has three protocols and three buttons
        error("button 0 9;", 7);
        error("button 1 9;", 7);
        PulseRemote x = loaded(PROTO + "button 0 5;", 2);
        due("protocols", x.count(0), 1);
        due("buttons", x.count(1), 1);
        Setup full = NEW.then(times(6, protocol(DISTANCE, 4, HIGHEST, WHOLE))).then(text(SHORTEST));
        answers(full, y -> y.load(), 1);
        answers(full.then(y -> y.load()), y -> y.count(0), 1);
    }

    @Says("The error position is the offset (from 0) of the first character of the first token that is not allowed")
    static void text_theErrorPositionFrom0To159() {
        error("x", 0);
        error(" ".repeat(159) + "x", 159);
        error(" ".repeat(159) + ";", 159);
        error(" ".repeat(155) + "7", 155);
        error(" ".repeat(120) + PROTO + ";", 154);
    }

    @Says("a number out of its range")
    static void text_kindFrom0To2() {
        for (int kind = 0; kind < 3; kind++) {
            due("the kind", loaded(proto(kind, 0, "" + kind), 1).protocol(0, 0), kind);
        }
        error(proto(0, 0, "3"), 6);
        error("proto 3", 6);
        error("proto 10000", 6);
    }

    @Says("a number out of its range")
    static void text_headersAndAFrom50To20000() {
        for (int kind = 0; kind < 3; kind++) {
            for (int place = 1; place <= 3; place++) {
                inRange(kind, place, 50, 20000);
                error(proto(kind, place, "0"), offset(kind, place));
            }
        }
    }

    @Says("a number out of its range")
    static void text_bAndCFrom50To20000() {
        for (int kind = 0; kind < 2; kind++) {
            inRange(kind, 4, 50, 20000);
            inRange(kind, 5, 50, 20000);
            error(proto(kind, 4, "0"), 20);
            error(proto(kind, 5, "0"), 24);
        }
    }

    @Says("(B and C other than 0 for phase;")
    static void text_bAndCAre0ForPhase() {
        loaded(proto(2, 4, "0"), 1);
        for (String number : new String[] {"1", "49", "50", "100", "20000"}) {
            error(proto(2, 4, number), 20);
            error(proto(2, 5, number), 22);
        }
        error("proto 2 900 450 100 60 70 4 0 0;", 20);
    }

    @Says("C equal to B;")
    static void text_cEqualToB() {
        for (int kind = 0; kind < 2; kind++) {
            error(proto(kind, 5, "100"), 24);
            error(proto(kind, 4, "300"), 24);
            loaded(proto(kind, 5, "99"), 1);
            loaded(proto(kind, 5, "101"), 1);
            error("proto " + kind + " 900 450 100 100 100", 24);
            error("proto " + kind + " 900 450 100 0 0", 20);
        }
    }

    @Says("a number out of its range")
    static void text_bitsFrom1To16() {
        for (int kind = 0; kind < 3; kind++) {
            inRange(kind, 6, 1, 16);
        }
    }

    @Says("a number out of its range")
    static void text_order0Or1() {
        for (int kind = 0; kind < 3; kind++) {
            inRange(kind, 7, 0, 1);
        }
    }

    @Says("a number out of its range")
    static void text_repetitionFrom0To2() {
        for (int kind = 0; kind < 3; kind++) {
            inRange(kind, 8, 0, 2);
        }
    }

    @Says("a PROTOCOL that does not exist;")
    static void text_aProtocolThatDoesNotExist() {
        error("button 0 0;", 7);
        loaded(PROTO + "button 0 9;", 2);
        error(PROTO + "button 1 9;", 41);
        loaded(PROTO + SHORTEST + "button 1 9;", 3);
        error(PROTO + SHORTEST + "button 2 9;", 67);
        error(PROTO + "button 1 9;" + PROTO, 41);
        loaded(SHORTEST.repeat(5) + "button 4 9;", 6);
        error(SHORTEST.repeat(5) + "button 5 9;", 137);
        error(PROTO + "button 99999 9;", 41);
    }

    @Says("a CODE that does not have so few bits)")
    static void text_aCodeWithMoreBits() {
        for (int bits : new int[] {1, 2, 4, 15, 16}) {
            String start = "proto 0 900 450 100 100 300 " + bits + " 0 0;button 0 ";
            int greatest = (1 << bits) - 1;
            due("the code", loaded(start + "0;", 2).button(0, 1), 0);
            due("the code", loaded(start + greatest + ";", 2).button(0, 1), greatest);
            error(start + (greatest + 1) + ";", start.length());
            error(start + "99999;", start.length());
        }
        error(PROTO + "proto 0 900 450 100 100 300 5 0 0;button 0 16;", 77);
        loaded(PROTO + "proto 0 900 450 100 100 300 5 0 0;button 1 16;", 3);
    }

    @Says("the word of a seventh protocol")
    static void text_sixProtocols() {
        PulseRemote x = loaded(SHORTEST.repeat(6), 6);
        due("protocols", x.count(0), 6);
        // a text has no room for the word of a seventh one
        due("the rest of a text", 160 - 6 * SHORTEST.length(), 4);
        error(SHORTEST.repeat(6) + "prot", 156);
    }

    /** A protocol and the buttons 0, 1, .. of it. */
    private static String buttons(int number) {
        StringBuilder text = new StringBuilder(SHORTEST);
        for (int code = 0; code < number; code++) {
            text.append("button0 ").append(code).append(';');
        }
        return text.toString();
    }

    @Says("or of a thirteenth button")
    static void text_theWordOfAThirteenthButton() {
        PulseRemote x = loaded(buttons(12), 13);
        due("buttons", x.count(1), 12);
        due("the last one", x.button(11, 1), 11);
        error(buttons(12) + "button0 12;", 148);
        error(buttons(12) + "button", 148);
        error(buttons(12) + "  button0 0;", 150);
        error(buttons(11) + "button", 143);
        loaded(buttons(12) + "   ", 13);
    }

    @Says("the CODE of a button that is there already.")
    static void text_theCodeOfAButtonThatIsThereAlready() {
        error(PROTO + "button 0 5;button 0 5;", 54);
        error(PROTO + "button 0 5;button 0 6;button 0 5;", 65);
        error(PROTO + "button 0 5;button 0 5", 54);
        loaded(PROTO + PROTO + "button 0 5;button 1 5;", 4);
        // RICH has the button 5 of protocol 0
        loaded(PROTO + "button 0 5;", 2);
    }

    @Says("the CODE of a button that is there already.")
    static void text_alsoByItsIdentity() {
        error(TOGGLED_PHASE + "button 0 2;button 0 10;", 46);
        error(TOGGLED_PHASE + "button 0 10;button 0 2;", 47);
        loaded(TOGGLED_PHASE + "button 0 2;button 0 11;", 3);
        loaded(SHORTEST + "button 0 2;button 0 10;", 3);
        error("proto2 50 50 50 0 0 4 1 2;button 0 2;button 0 3;", 46);
    }

    @Says("If the text ends inside of an item, the error position is the length of the text.")
    static void text_endsInsideOfAnItem() {
        int[] ends = {5, 7, 11, 15, 19, 23, 27, 29, 31, 33};
        for (int end : ends) {
            error(PROTO.substring(0, end), end);
            error(PROTO.substring(0, end) + " ", end + 1);
            error(PROTO.substring(0, end) + "   ", end + 3);
            error(PROTO + PROTO.substring(0, end), 34 + end);
        }
        for (int end : new int[] {6, 8, 10}) {
            error(PROTO + "button 0 5;".substring(0, end), 34 + end);
            error(PROTO + "button 0 5;".substring(0, end) + "  ", 36 + end);
        }
        error("button", 6);
        error("button  ", 8);
    }

    @Says("If the text ends inside of an item, the error position is the length of the text.")
    static void text_endsInsideOfAnItemWith160Characters() {
        error(" ".repeat(155) + "proto", 160);
        error(" ".repeat(154) + "button", 160);
        error("proto" + " ".repeat(155), 160);
        error(" ".repeat(127) + PROTO.substring(0, 33), 160);
    }

    // ---- 13: appendCharacter

    @Says("Appends a character to the text.")
    static void promise13_atTheEndOfTheText() {
        answers(text("button "), x -> x.load(), -17);
        answers(text("button ").then(x -> x.appendCharacter('0')), x -> x.load(), -17);
        answers(text("button ").then(x -> x.appendCharacter('b')), x -> x.load(), -17);
        answers(text("button").then(x -> x.appendCharacter('b')), x -> x.load(), -10);
        answers(text("  ").then(x -> x.appendCharacter('b')), x -> x.load(), -12);
        answers(text(PROTO.substring(0, 33)).then(x -> x.appendCharacter(';')), x -> x.load(), 1);
    }

    @Says("- `character`: character code, 0 to 255")
    static void promise13_characterFrom0To255() {
        between(RICH, (x, character) -> x.appendCharacter(character), 0, 7, 255, 7);
        for (int character : new int[] {0, 127, 128, 255}) {
            answers(x -> x.appendCharacter(character), x -> x.load(), -10);
        }
        // these would be letters and spaces if only their lowest bits counted
        refused(NEW, x -> x.appendCharacter(256 + 32), INVALID);
        refused(NEW, x -> x.appendCharacter(65536 + 'p'), INVALID);
    }

    @Says("Returns the new length of the text")
    static void promise13_answersTheNewLength() {
        PulseRemote x = new PulseRemote();
        for (int length = 1; length <= 160; length++) {
            due("the length", x.appendCharacter(32), length);
        }
        due("characters", x.count(2), 160);
    }

    @Says("CAPACITY_EXCEEDED if the text has 160 characters.")
    static void promise13_noRoomWith160() {
        answers(text(" ".repeat(159)), x -> x.appendCharacter('x'), 160);
        refused(FULL, x -> x.appendCharacter('x'), CAPACITY);
        refused(FULL, x -> x.appendCharacter(0), CAPACITY);
        refused(FULL, x -> x.appendCharacter(255), CAPACITY);
        answers(FULL.then(x -> x.clearText()), x -> x.appendCharacter('x'), 1);
        answers(FULL.then(x -> x.load()), x -> x.appendCharacter('x'), 1);
    }

    @Says("INVALID_ARGUMENT if character is out of range; CAPACITY_EXCEEDED if the text has 160 characters.")
    static void promise13_aWrongCharacterGoesBeforeNoRoom() {
        refused(FULL, x -> x.appendCharacter(-1), INVALID);
        refused(FULL, x -> x.appendCharacter(256), INVALID);
    }

    // ---- 14: clearText

    @Says("Makes the text empty.")
    static void promise14_theTextIsEmptyThen() {
        PulseRemote x = made(text("x").then(y -> y.clearText()));
        due("characters", x.count(2), 0);
        due("load()", x.load(), 0);
        answers(text("x").then(y -> y.clearText()).then(text(PROTO)), y -> y.load(), 1);
    }

    @Says("Returns the previous length of the text.")
    static void promise14_answersThePreviousLength() {
        answers(NEW, x -> x.clearText(), 0);
        answers(text("x"), x -> x.clearText(), 1);
        answers(FULL, x -> x.clearText(), 160);
        answers(FULL.then(x -> x.clearText()), x -> x.clearText(), 0);
    }

    // ---- 15: load

    @Says("Reads the text as protocols and buttons, in place of the present ones.")
    static void promise15_inPlaceOfThePresentOnes() {
        PulseRemote x = loaded("proto 1 901 452 103 204 305 7 1 2;", 1);
        due("protocols", x.count(0), 1);
        due("protocol 1", x.protocol(1, 0), INVALID);
        due("buttons", x.count(1), 0);
        due("button 0", x.button(0, 0), INVALID);
        due("the next protocol", x.addProtocol(0, 1, 0, 0), 1);
    }

    @Says("Reads the text as protocols and buttons, in place of the present ones.")
    static void promise15_trainsAndSettingsStay() {
        PulseRemote x = loaded(PROTO, 1);
        due("the length of train 0", x.length(0), 27);
        due("the length of train 1", x.length(1), 15);
        due("the length of train 2", x.length(2), 3);
        due("the gap", x.setGap(1000), 9000);
        due("the hold", x.setHold(1000), 30000);
        due("the tolerance", x.setTolerance(1), 15);
    }

    @Says("Reads the text as protocols and buttons, in place of the present ones.")
    static void promise15_anEmptyTextLeavesNone() {
        for (String text : new String[] {"", " ", " ".repeat(160)}) {
            PulseRemote x = loaded(text, 0);
            due("protocols", x.count(0), 0);
            due("buttons", x.count(1), 0);
            due("the length of train 0", x.length(0), 27);
            due("presses", x.pressCount(0), 0);
        }
    }

    @Says("The text becomes empty.")
    static void promise15_theTextBecomesEmpty() {
        for (String text : new String[] {"", " ", PROTO, " ".repeat(160)}) {
            PulseRemote x = made(read(text).then(y -> y.load()));
            due("characters", x.count(2), 0);
            due("load() again", x.load(), 0);
            due("the next character", x.appendCharacter(32), 1);
        }
    }

    @Says("Returns the number of items")
    static void promise15_answersTheNumberOfItems() {
        loaded("", 0);
        loaded(PROTO, 1);
        loaded(PROTO + "button 0 5;", 2);
        loaded(PROTO + SHORTEST + "button 0 5;button 1 5;", 4);
        loaded(buttons(12), 13);
    }

    @Says("-10 minus the error position if the text has an error")
    static void promise15_answersTheErrorPosition() {
        error("x", 0);
        error(" x", 1);
        error(PROTO + "x", 34);
        error(" ".repeat(155) + "proto", 160);
    }

    @Says("(then nothing changes, and the text is kept).")
    static void promise15_ofAnErrorNothingChanges() {
        refused(read(PROTO + SHORTEST + "button 0 5;button 2 7;"), x -> x.load(), -88);
        refused(read(SHORTEST.repeat(6) + "x"), x -> x.load(), -166);
        refused(read(PROTO + "button 0 9;button 0 9;"), x -> x.load(), -64);
        refused(NEW.then(text(PROTO + "x")), x -> x.load(), -44);
    }

    @Says("and the text is kept).")
    static void promise15_aKeptTextCanBeEnded() {
        PulseRemote x = made(read(PROTO.substring(0, 33)));
        due("load()", x.load(), -43);
        due("characters", x.count(2), 33);
        due("the next one", x.appendCharacter(';'), 34);
        due("load() again", x.load(), 1);
        dueProtocol(x, 0, 0, 900, 450, 100, 100, 300, 4, 0, 0);
    }
}
