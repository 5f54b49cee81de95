import java.util.Random;

/**
 * Random texts, right ones and ones with a fault, each read by a fresh PulseRemote and by a PlainRemote.
 * The seed is fixed, so that the texts are always the same ones.
 */
public final class RandomTextsTest {
    private static final int TEXTS = 20000;
    private static final char[] ODD = {' ', ' ', ';', '0', '1', '7', '9', 'a', 'o', 'z', 'A', 'Z', '-', '/', ':',
        '`', '{', '\n', '\t', 0, 160, 255};

    private static final Random RANDOM = new Random(15);
    private static int wrong = 0;

    private RandomTextsTest() { }

    public static void main(String[] args) {
        int right = 0;
        int full = 0;
        for (int i = 0; i < TEXTS && wrong < 5; i++) {
            String text = i % 8 == 0 ? manyButtons() : items();
            if (RANDOM.nextInt(3) > 0) {
                text = withFault(text);
            }
            PlainRemote plain = new PlainRemote();
            right += compare(text, plain) > 0 ? 1 : 0;
            full += plain.count(1) == 12 ? 1 : 0;
        }
        if (wrong == 0 && (right < 1000 || full < 100)) {
            wrong++;
            System.out.println("too few texts are right (" + right + ") or have 12 buttons (" + full + ")");
        }
        System.out.println(wrong == 0 ? TEXTS + " random texts agree" : wrong + " random texts do not agree");
        if (wrong != 0) {
            System.exit(1);
        }
    }

    private static int compare(String text, PlainRemote plain) {
        PulseRemote program = new PulseRemote();
        for (char sign : text.toCharArray()) {
            check(text, "appendCharacter", program.appendCharacter(sign), plain.appendCharacter(sign));
        }
        int items = plain.load();
        check(text, "load", program.load(), items);
        for (int what = 0; what < 4; what++) {
            check(text, "count " + what, program.count(what), plain.count(what));
        }
        for (int i = 0; i < 6; i++) {
            for (int what = 0; what < 9; what++) {
                check(text, "protocol " + i + " " + what, program.protocol(i, what), plain.protocol(i, what));
            }
        }
        for (int i = 0; i < 12; i++) {
            check(text, "button " + i, program.button(i, 0), plain.button(i, 0));
            check(text, "button " + i, program.button(i, 1), plain.button(i, 1));
        }
        return items;
    }

    private static void check(String text, String call, int got, int due) {
        if (got != due) {
            wrong++;
            System.out.println("text <" + text + ">: " + call + " answered " + got + ", due is " + due);
        }
    }

    private static int number(int usual, int... others) {
        return RANDOM.nextInt(40) > 0 ? usual : others[RANDOM.nextInt(others.length)];
    }

    private static String spaces(int least) {
        return " ".repeat(RANDOM.nextInt(6) > 0 ? least : least + RANDOM.nextInt(3));
    }

    private static int length() {
        return number(50 + RANDOM.nextInt(RANDOM.nextBoolean() ? 50 : 19951), 0, 49, 50, 20000, 20001, 99999, 100000);
    }

    private static String proto(int kind, int bits) {
        StringBuilder text = new StringBuilder("proto").append(spaces(0)).append(number(kind, 0, 1, 2, 3));
        int b = kind == 2 ? number(0, 50, 1) : length();
        int c = kind == 2 ? number(0, 50, 1) : number(length(), b, 0);
        int order = number(RANDOM.nextInt(2), 2);
        int repetition = number(RANDOM.nextInt(3), 3);
        for (int part : new int[] {length(), length(), length(), b, c, bits, order, repetition}) {
            text.append(spaces(1)).append(part);
        }
        return text.append(spaces(0)).append(';').append(spaces(0)).toString();
    }

    private static String button(int protocol, int code) {
        return "button" + spaces(0) + protocol + spaces(1) + code + spaces(0) + ";" + spaces(0);
    }

    private static String items() {
        StringBuilder text = new StringBuilder(spaces(0));
        int[] bits = new int[20];
        int protocols = 0;
        for (int items = RANDOM.nextInt(9); items > 0; items--) {
            if (RANDOM.nextInt(3) == 0 || protocols == 0 && RANDOM.nextInt(20) > 0) {
                bits[protocols] = number(1 + RANDOM.nextInt(RANDOM.nextBoolean() ? 4 : 16), 0, 16, 17);
                text.append(proto(RANDOM.nextInt(3), bits[protocols]));
                protocols++;
            } else {
                int protocol = number(RANDOM.nextInt(Math.max(1, protocols)), protocols, 6);
                int codes = 1 << bits[protocol];
                text.append(button(protocol, number(RANDOM.nextInt(codes), codes - 1, codes, 65536)));
            }
        }
        return text.toString();
    }

    private static String manyButtons() {
        StringBuilder text = new StringBuilder("proto2 50 50 50 0 0 4 0 " + RANDOM.nextInt(2) + ";");
        int buttons = 11 + RANDOM.nextInt(3);
        for (int code = 0; code < buttons; code++) {
            text.append("button0 ").append(number(code, 3)).append(';');
        }
        return text.toString();
    }

    private static String withFault(String text) {
        StringBuilder faulty = new StringBuilder(text);
        int place = RANDOM.nextInt(text.length() + 1);
        char odd = ODD[RANDOM.nextInt(ODD.length)];
        switch (RANDOM.nextInt(5)) {
            case 0 -> faulty.setLength(place);
            case 1 -> faulty.insert(place, odd);
            case 2 -> faulty.insert(place, "0");
            default -> {
                if (place < text.length()) {
                    faulty.setCharAt(place, odd);
                }
            }
        }
        return faulty.toString();
    }
}
