import java.util.ArrayDeque;
import java.util.ArrayList;
import java.util.Collections;
import java.util.Deque;
import java.util.List;
import java.util.TreeSet;

/**
 * A second reading of the document, slow and by other ways than the program's, with which RandomRunsTest
 * compares it: codes are searched bit by bit, collisions are put together from all moments at which
 * something changes, texts are cut into tokens first.
 */
public final class PlainRemote {
    private static final int INVALID = -1;
    private static final int STATE = -2;
    private static final int CAPACITY = -3;
    private static final int NONE = -9;

    private record Proto(int kind, int h, int s, int a, int b, int c, int bits, int order, int repetition) {
        boolean has(int code) {
            return code >= 0 && code < Math.pow(2, bits);
        }

        int identity(int code) {
            if (repetition != 2) {
                return code;
            }
            boolean[] sent = sending(code);
            sent[0] = false;
            return code(sent);
        }

        boolean[] sending(int code) {
            boolean[] sent = new boolean[bits];
            for (int k = 0; k < bits; k++) {
                int place = order == 0 ? bits - 1 - k : k;
                sent[k] = code / (int) Math.pow(2, place) % 2 == 1;
            }
            return sent;
        }

        int code(boolean[] sent) {
            int code = 0;
            for (int k = 0; k < bits; k++) {
                int place = order == 0 ? bits - 1 - k : k;
                code += sent[k] ? (int) Math.pow(2, place) : 0;
            }
            return code;
        }

        /** What is sent for the first bits, a mark as its length and a space as the negative one. */
        List<Integer> signs(List<Boolean> first) {
            List<Integer> signs = new ArrayList<>(List.of(h, -s));
            for (int k = 0; k < first.size(); k++) {
                boolean bit = first.get(k);
                switch (kind) {
                    case 0 -> signs.addAll(List.of(a, bit ? -c : -b));
                    case 1 -> {
                        if (k > 0) {
                            signs.add(-a);
                        }
                        signs.add(bit ? c : b);
                    }
                    default -> signs.addAll(bit ? List.of(a, -a) : List.of(-a, a));
                }
            }
            if (first.size() == bits && kind == 0) {
                signs.add(a);
            }
            return signs;
        }

        List<Integer> durations(List<Boolean> first) {
            List<Integer> durations = new ArrayList<>();
            int before = 0;
            for (int sign : signs(first)) {
                if (Integer.signum(sign) == Integer.signum(before)) {
                    int last = durations.size() - 1;
                    durations.set(last, durations.get(last) + Math.abs(sign));
                } else {
                    durations.add(Math.abs(sign));
                }
                before = sign;
            }
            if (first.size() == bits && before < 0) {
                durations.remove(durations.size() - 1);
            }
            return durations;
        }

        List<Integer> frame(int code) {
            List<Boolean> all = new ArrayList<>();
            for (boolean bit : sending(code)) {
                all.add(bit);
            }
            return durations(all);
        }

        List<Integer> shortFrame() {
            return List.of(h, s / 2, a);
        }
    }

    private record Button(int protocol, int identity) { }

    private record Frame(int start, List<Integer> durations, int spaceBefore) { }

    /** A code of -1 is a short frame. */
    private record Decoded(int protocol, int code) { }

    private static final class Press {
        int protocol;
        int code;
        int count;
    }

    private static final class State {
        List<Proto> protocols = new ArrayList<>();
        List<Button> buttons = new ArrayList<>();
        List<List<Integer>> trains = new ArrayList<>(List.of(List.of(), List.of(), List.of()));
        int gap = 10000;
        int hold = 40000;
        int tolerance = 20;

        State copy() {
            State copy = new State();
            copy.protocols = new ArrayList<>(protocols);
            copy.buttons = new ArrayList<>(buttons);
            copy.trains = new ArrayList<>(trains);
            copy.gap = gap;
            copy.hold = hold;
            copy.tolerance = tolerance;
            return copy;
        }
    }

    private State now = new State();
    private String text = "";
    private final Deque<State> saved = new ArrayDeque<>();

    private void save() {
        saved.addLast(now.copy());
        if (saved.size() > 6) {
            saved.removeFirst();
        }
    }

    private static boolean out(int value, int low, int high) {
        return value < low || value > high;
    }

    private boolean noProtocol(int protocol) {
        return out(protocol, 0, now.protocols.size() - 1);
    }

    private static boolean fits(int duration, int length, int tolerance) {
        return 100L * Math.abs((long) duration - length) <= (long) length * tolerance;
    }

    private static boolean fits(List<Integer> durations, List<Integer> lengths, int tolerance) {
        if (durations.size() != lengths.size()) {
            return false;
        }
        for (int i = 0; i < lengths.size(); i++) {
            if (!fits(durations.get(i), lengths.get(i), tolerance)) {
                return false;
            }
        }
        return true;
    }

    // ---- protocols and buttons

    public int addProtocol(int kind, int bits, int order, int repetition) {
        if (out(kind, 0, 2) || out(bits, 1, 16) || out(order, 0, 1) || out(repetition, 0, 2)) {
            return INVALID;
        }
        if (now.protocols.size() == 6) {
            return CAPACITY;
        }
        save();
        now.protocols.add(kind == 2 ? new Proto(kind, 9000, 4500, 560, 0, 0, bits, order, repetition)
                : new Proto(kind, 9000, 4500, 560, 560, 1690, bits, order, repetition));
        return now.protocols.size() - 1;
    }

    private static boolean impossible(int kind, int b, int c) {
        return kind == 2 ? b != 0 || c != 0 : out(b, 50, 20000) || out(c, 50, 20000) || b == c;
    }

    public int setLengths(int protocol, int h, int s, int a, int b, int c) {
        if (noProtocol(protocol)) {
            return INVALID;
        }
        Proto p = now.protocols.get(protocol);
        if (out(h, 50, 20000) || out(s, 50, 20000) || out(a, 50, 20000) || impossible(p.kind, b, c)) {
            return INVALID;
        }
        save();
        now.protocols.set(protocol, new Proto(p.kind, h, s, a, b, c, p.bits, p.order, p.repetition));
        return p.a;
    }

    public int protocol(int protocol, int what) {
        if (noProtocol(protocol) || out(what, 0, 8)) {
            return INVALID;
        }
        Proto p = now.protocols.get(protocol);
        return List.of(p.kind, p.h, p.s, p.a, p.b, p.c, p.bits, p.order, p.repetition).get(what);
    }

    public int count(int what) {
        return out(what, 0, 3) ? INVALID
                : List.of(now.protocols.size(), now.buttons.size(), text.length(), saved.size()).get(what);
    }

    private record Learned(Proto protocol, int marks, int spaces) { }

    private static List<Integer> means(List<Integer> durations) {
        List<Integer> means = new ArrayList<>();
        List<Integer> cluster = new ArrayList<>();
        Collections.sort(durations);
        for (int k = 0; k <= durations.size(); k++) {
            if (k > 0 && (k == durations.size() || 2 * durations.get(k) > 3 * durations.get(k - 1))) {
                means.add(mean(cluster));
                cluster = new ArrayList<>();
            }
            if (k < durations.size()) {
                cluster.add(durations.get(k));
            }
        }
        return means;
    }

    private static int mean(List<Integer> durations) {
        return (int) durations.stream().mapToLong(Integer::longValue).sum() / durations.size();
    }

    private Learned learned(int slot) {
        List<Frame> frames = frames(now.trains.get(slot));
        if (frames.isEmpty() || frames.get(0).durations.size() < 5) {
            return null;
        }
        int n = frames.get(0).durations.size();
        List<Integer> firsts = new ArrayList<>();
        List<Integer> seconds = new ArrayList<>();
        List<Integer> marks = new ArrayList<>();
        List<Integer> spaces = new ArrayList<>();
        for (Frame frame : frames) {
            if (frame.durations.size() == n) {
                firsts.add(frame.durations.get(0));
                seconds.add(frame.durations.get(1));
                for (int i = 2; i < n; i += 2) {
                    marks.add(frame.durations.get(i));
                }
                for (int i = 3; i < n; i += 2) {
                    spaces.add(frame.durations.get(i));
                }
            }
        }
        List<Integer> m = means(marks);
        List<Integer> s = means(spaces);
        int h = mean(firsts);
        int hs = mean(seconds);
        Proto proto = null;
        if (m.size() == 1 && s.size() == 2) {
            proto = new Proto(0, h, hs, m.get(0), s.get(0), s.get(1), (n - 3) / 2, 0, 0);
        } else if (m.size() == 2 && s.size() == 1) {
            proto = new Proto(1, h, hs, s.get(0), m.get(0), m.get(1), (n - 1) / 2, 0, 0);
        }
        if (proto != null && (proto.bits > 16 || out(proto.h, 50, 20000) || out(proto.s, 50, 20000)
                || out(proto.a, 50, 20000) || impossible(proto.kind, proto.b, proto.c))) {
            proto = null;
        }
        return new Learned(proto, m.size(), s.size());
    }

    public int learn(int slot) {
        if (out(slot, 0, 2)) {
            return INVALID;
        }
        Learned learned = learned(slot);
        if (learned == null || learned.protocol == null) {
            return STATE;
        }
        if (now.protocols.size() == 6) {
            return CAPACITY;
        }
        save();
        now.protocols.add(learned.protocol);
        return now.protocols.size() - 1;
    }

    public int clusters(int slot, int what) {
        if (out(slot, 0, 2) || out(what, 0, 1)) {
            return INVALID;
        }
        Learned learned = learned(slot);
        return learned == null ? STATE : what == 0 ? learned.marks : learned.spaces;
    }

    public int addButton(int protocol, int code) {
        if (noProtocol(protocol) || !now.protocols.get(protocol).has(code)) {
            return INVALID;
        }
        Button button = new Button(protocol, now.protocols.get(protocol).identity(code));
        if (now.buttons.contains(button)) {
            return STATE;
        }
        if (now.buttons.size() == 12) {
            return CAPACITY;
        }
        save();
        now.buttons.add(button);
        return now.buttons.size() - 1;
    }

    public int button(int button, int part) {
        if (out(button, 0, now.buttons.size() - 1) || out(part, 0, 1)) {
            return INVALID;
        }
        return part == 0 ? now.buttons.get(button).protocol : now.buttons.get(button).identity;
    }

    public int setGap(int gap) {
        if (out(gap, 1000, 60000)) {
            return INVALID;
        }
        save();
        int previous = now.gap;
        now.gap = gap;
        return previous;
    }

    public int setHold(int hold) {
        if (out(hold, 1000, 60000)) {
            return INVALID;
        }
        save();
        int previous = now.hold;
        now.hold = hold;
        return previous;
    }

    public int setTolerance(int tolerance) {
        if (out(tolerance, 0, 40)) {
            return INVALID;
        }
        save();
        int previous = now.tolerance;
        now.tolerance = tolerance;
        return previous;
    }

    // ---- text

    public int appendCharacter(int character) {
        if (out(character, 0, 255)) {
            return INVALID;
        }
        if (text.length() == 160) {
            return CAPACITY;
        }
        text += (char) character;
        return text.length();
    }

    public int clearText() {
        int previous = text.length();
        text = "";
        return previous;
    }

    private record Token(String sign, int start) { }

    private static List<Token> tokens(String text) {
        List<Token> tokens = new ArrayList<>();
        java.util.regex.Matcher matcher = java.util.regex.Pattern
                .compile("[a-z]+|[0-9]+|[^ ]", java.util.regex.Pattern.DOTALL).matcher(text);
        while (matcher.find()) {
            tokens.add(new Token(matcher.group(), matcher.start()));
        }
        return tokens;
    }

    private static boolean isNumber(String sign, int low, int high) {
        return sign.matches("0|[1-9][0-9]{0,4}") && !out(Integer.parseInt(sign), low, high);
    }

    private static boolean protoAllows(List<Integer> before, String sign) {
        boolean phase = !before.isEmpty() && before.get(0) == 2;
        return switch (before.size()) {
            case 0 -> isNumber(sign, 0, 2);
            case 1, 2, 3 -> isNumber(sign, 50, 20000);
            case 4 -> phase ? sign.equals("0") : isNumber(sign, 50, 20000);
            case 5 -> phase ? sign.equals("0")
                    : isNumber(sign, 50, 20000) && Integer.parseInt(sign) != before.get(4);
            case 6 -> isNumber(sign, 1, 16);
            case 7 -> isNumber(sign, 0, 1);
            case 8 -> isNumber(sign, 0, 2);
            default -> sign.equals(";");
        };
    }

    private static boolean buttonAllows(State read, List<Integer> before, String sign) {
        if (before.isEmpty()) {
            return isNumber(sign, 0, read.protocols.size() - 1);
        }
        if (before.size() == 2) {
            return sign.equals(";");
        }
        Proto proto = read.protocols.get(before.get(0));
        return isNumber(sign, 0, 65535) && proto.has(Integer.parseInt(sign))
                && !read.buttons.contains(new Button(before.get(0), proto.identity(Integer.parseInt(sign))));
    }

    public int load() {
        State read = new State();
        String word = "";
        List<Integer> numbers = new ArrayList<>();
        int items = 0;
        for (Token token : tokens(text)) {
            String sign = token.sign;
            if (word.isEmpty()) {
                if (!(sign.equals("proto") && read.protocols.size() < 6)
                        && !(sign.equals("button") && read.buttons.size() < 12)) {
                    return -10 - token.start;
                }
                word = sign;
                continue;
            }
            if (!(word.equals("proto") ? protoAllows(numbers, sign) : buttonAllows(read, numbers, sign))) {
                return -10 - token.start;
            }
            if (!sign.equals(";")) {
                numbers.add(Integer.parseInt(sign));
                continue;
            }
            if (word.equals("proto")) {
                Integer[] n = numbers.toArray(new Integer[0]);
                read.protocols.add(new Proto(n[0], n[1], n[2], n[3], n[4], n[5], n[6], n[7], n[8]));
            } else {
                int code = numbers.get(1);
                read.buttons.add(new Button(numbers.get(0),
                        read.protocols.get(numbers.get(0)).identity(code)));
            }
            items++;
            word = "";
            numbers.clear();
        }
        if (!word.isEmpty()) {
            return -10 - text.length();
        }
        save();
        now.protocols = read.protocols;
        now.buttons = read.buttons;
        text = "";
        return items;
    }

    // ---- trains

    private int change(int slot, List<Integer> train) {
        save();
        now.trains.set(slot, List.copyOf(train));
        return train.size();
    }

    public int append(int slot, int duration) {
        if (out(slot, 0, 2) || out(duration, 1, 60000)) {
            return INVALID;
        }
        List<Integer> train = new ArrayList<>(now.trains.get(slot));
        train.add(duration);
        return train.size() > 200 ? CAPACITY : change(slot, train);
    }

    private int appendFrame(int slot, List<Integer> frame, int space) {
        List<Integer> train = new ArrayList<>(now.trains.get(slot));
        if (!train.isEmpty()) {
            if (train.size() % 2 == 0) {
                return STATE;
            }
            train.add(space);
        }
        train.addAll(frame);
        return train.size() > 200 ? CAPACITY : change(slot, train);
    }

    public int send(int slot, int protocol, int code, int space) {
        if (out(slot, 0, 2) || noProtocol(protocol) || out(space, 1, 60000)
                || !now.protocols.get(protocol).has(code)) {
            return INVALID;
        }
        return appendFrame(slot, now.protocols.get(protocol).frame(code), space);
    }

    public int sendShort(int slot, int protocol, int space) {
        if (out(slot, 0, 2) || noProtocol(protocol) || out(space, 1, 60000)) {
            return INVALID;
        }
        return appendFrame(slot, now.protocols.get(protocol).shortFrame(), space);
    }

    public int clear(int slot) {
        if (out(slot, 0, 2)) {
            return INVALID;
        }
        int previous = now.trains.get(slot).size();
        change(slot, List.of());
        return previous;
    }

    /** The moments at which a train's level changes: a mark begins at the even ones, ends at the odd ones. */
    private static List<Integer> moments(List<Integer> train, int begin) {
        List<Integer> moments = new ArrayList<>();
        int moment = begin;
        for (int duration : train) {
            moments.add(moment);
            moment += duration;
        }
        moments.add(moment);
        return moments;
    }

    private static boolean isMark(List<Integer> moments, int moment) {
        int place = Collections.binarySearch(moments, moment);
        int last = place >= 0 ? place : -place - 2;
        return last >= 0 && last < moments.size() - 1 && last % 2 == 0;
    }

    private static List<Integer> collision(List<Integer> first, List<Integer> second, int offset) {
        List<Integer> one = moments(first, 0);
        List<Integer> two = moments(second, offset);
        TreeSet<Integer> all = new TreeSet<>(one);
        all.addAll(two);
        List<Integer> result = new ArrayList<>();
        boolean level = true;
        int since = 0;
        for (int moment : all) {
            boolean next = isMark(one, moment) || isMark(two, moment);
            if (next != level) {
                result.add(moment - since);
                since = moment;
                level = next;
            }
        }
        return result;
    }

    public int overlay(int slot, int over, int offset) {
        if (out(slot, 0, 2) || out(over, 0, 2) || slot == over || out(offset, 0, 60000)) {
            return INVALID;
        }
        List<Integer> first = now.trains.get(slot);
        List<Integer> second = now.trains.get(over);
        if (first.size() % 2 == 0 || second.size() % 2 == 0) {
            return STATE;
        }
        List<Integer> result = collision(first, second, offset);
        if (result.size() > 200 || Collections.max(result) > 60000) {
            return CAPACITY;
        }
        return change(slot, result);
    }

    public int distort(int slot, int percent, int turn) {
        if (out(slot, 0, 2) || out(percent, 0, 30) || out(turn, 0, 1)) {
            return INVALID;
        }
        List<Integer> train = new ArrayList<>();
        int changed = 0;
        for (int d : now.trains.get(slot)) {
            int e = new int[] {-percent, 0, percent}[train.size() % 3] * (turn == 1 ? -1 : 1);
            int result = Math.max(1, Math.min(60000, Math.floorDiv(100 * d + d * e, 100)));
            changed += result == d ? 0 : 1;
            train.add(result);
        }
        change(slot, train);
        return changed;
    }

    public int duration(int slot, int index) {
        if (out(slot, 0, 2) || index < 0) {
            return INVALID;
        }
        return index < now.trains.get(slot).size() ? now.trains.get(slot).get(index) : NONE;
    }

    public int length(int slot) {
        return out(slot, 0, 2) ? INVALID : now.trains.get(slot).size();
    }

    // ---- decoding

    private List<Frame> frames(List<Integer> train) {
        List<Frame> frames = new ArrayList<>();
        List<Integer> part = new ArrayList<>();
        int spaceBefore = 0;
        for (int i = 0; i < train.size(); i++) {
            boolean space = i % 2 == 1;
            boolean atEnd = i == train.size() - 1;
            if (space && (train.get(i) > now.gap || atEnd)) {
                frames.add(new Frame(i - part.size(), part, spaceBefore));
                part = new ArrayList<>();
                spaceBefore = train.get(i);
            } else {
                part.add(train.get(i));
            }
        }
        if (!part.isEmpty()) {
            frames.add(new Frame(train.size() - part.size(), part, spaceBefore));
        }
        return frames;
    }

    /** The smallest code whose frame begins with those bits and is fitted, by trying 0 and then 1. */
    private static List<Boolean> search(Proto p, List<Boolean> bits, List<Integer> durations, int tolerance) {
        List<Integer> sent = p.durations(bits);
        if (bits.size() == p.bits) {
            return fits(durations, sent, tolerance) ? bits : null;
        }
        List<Integer> ended = sent.subList(0, sent.size() - 1);
        if (ended.size() > durations.size() || !fits(durations.subList(0, ended.size()), ended, tolerance)) {
            return null;
        }
        for (boolean bit : new boolean[] {false, true}) {
            List<Boolean> longer = new ArrayList<>(bits);
            longer.add(bit);
            List<Boolean> found = search(p, longer, durations, tolerance);
            if (found != null) {
                return found;
            }
        }
        return null;
    }

    private Decoded decode(List<Integer> durations, int tolerance) {
        for (int i = 0; i < now.protocols.size(); i++) {
            Proto p = now.protocols.get(i);
            List<Boolean> found = search(p, List.of(), durations, tolerance);
            if (found != null) {
                boolean[] sent = new boolean[p.bits];
                for (int k = 0; k < p.bits; k++) {
                    sent[k] = found.get(k);
                }
                return new Decoded(i, p.code(sent));
            }
        }
        for (int i = 0; i < now.protocols.size(); i++) {
            Proto p = now.protocols.get(i);
            if (p.repetition == 1 && fits(durations, p.shortFrame(), tolerance)) {
                return new Decoded(i, -1);
            }
        }
        return null;
    }

    public int frameCount(int slot) {
        return out(slot, 0, 2) ? INVALID : frames(now.trains.get(slot)).size();
    }

    public int frame(int slot, int frame, int what) {
        if (out(slot, 0, 2) || frame < 0 || out(what, 0, 4)) {
            return INVALID;
        }
        List<Frame> frames = frames(now.trains.get(slot));
        if (frame >= frames.size()) {
            return NONE;
        }
        Frame asked = frames.get(frame);
        Decoded decoded = decode(asked.durations, now.tolerance);
        if (what == 0) {
            return asked.start;
        }
        if (what == 1) {
            return asked.durations.size();
        }
        if (decoded == null) {
            return NONE;
        }
        if (what == 2) {
            return decoded.protocol;
        }
        if (what == 3) {
            return decoded.code == -1 ? NONE : decoded.code;
        }
        return decoded.code == -1 ? 1 : 0;
    }

    public int deviation(int slot, int frame) {
        if (out(slot, 0, 2) || frame < 0) {
            return INVALID;
        }
        List<Frame> frames = frames(now.trains.get(slot));
        if (frame >= frames.size()) {
            return NONE;
        }
        List<Integer> durations = frames.get(frame).durations;
        Decoded decoded = decode(durations, now.tolerance);
        if (decoded == null) {
            return NONE;
        }
        Proto p = now.protocols.get(decoded.protocol);
        List<Integer> lengths = decoded.code == -1 ? p.shortFrame() : p.frame(decoded.code);
        int worst = 0;
        for (int i = 0; i < lengths.size(); i++) {
            worst = Math.max(worst, 1000 * Math.abs(durations.get(i) - lengths.get(i)) / lengths.get(i));
        }
        return worst;
    }

    /** All presses, behind them the strays as null. */
    private List<Press> presses(int slot) {
        List<Press> presses = new ArrayList<>();
        List<Press> strays = new ArrayList<>();
        Press open = null;
        for (Frame frame : frames(now.trains.get(slot))) {
            Decoded decoded = decode(frame.durations, now.tolerance);
            boolean goesOn = open != null && frame.spaceBefore <= now.hold && decoded != null
                    && decoded.protocol == open.protocol && (decoded.code == -1
                    || decoded.code == open.code && now.protocols.get(open.protocol).repetition != 1);
            if (goesOn) {
                open.count++;
            } else if (decoded != null && decoded.code != -1) {
                open = new Press();
                open.protocol = decoded.protocol;
                open.code = decoded.code;
                open.count = 1;
                presses.add(open);
            } else {
                strays.add(null);
                open = null;
            }
        }
        List<Press> all = new ArrayList<>(presses.subList(0, Math.min(30, presses.size())));
        all.addAll(strays);
        return all;
    }

    public int pressCount(int slot) {
        return out(slot, 0, 2) ? INVALID : (int) presses(slot).stream().filter(p -> p != null).count();
    }

    public int press(int slot, int press, int what) {
        if (out(slot, 0, 2) || press < 0 || out(what, 0, 3)) {
            return INVALID;
        }
        List<Press> presses = presses(slot);
        if (press >= presses.size() || presses.get(press) == null) {
            return NONE;
        }
        Press p = presses.get(press);
        int identity = now.protocols.get(p.protocol).identity(p.code);
        int button = now.buttons.indexOf(new Button(p.protocol, identity));
        return List.of(p.protocol, p.code, p.count, button < 0 ? NONE : button).get(what);
    }

    public int strayCount(int slot) {
        return out(slot, 0, 2) ? INVALID : (int) presses(slot).stream().filter(p -> p == null).count();
    }

    public int neededTolerance(int slot) {
        if (out(slot, 0, 2)) {
            return INVALID;
        }
        for (int tolerance = 0; tolerance <= 40; tolerance++) {
            boolean all = true;
            for (Frame frame : frames(now.trains.get(slot))) {
                all = all && decode(frame.durations, tolerance) != null;
            }
            if (all) {
                return tolerance;
            }
        }
        return NONE;
    }

    // ---- collisions

    private List<Integer> buttonFrame(int button) {
        Button b = now.buttons.get(button);
        return now.protocols.get(b.protocol).frame(b.identity);
    }

    public int explain(int slot, int step, int part) {
        if (out(slot, 0, 2) || out(step, 50, 2000) || out(part, 0, 2)) {
            return INVALID;
        }
        for (int i = 0; i < now.buttons.size(); i++) {
            for (int j = 0; j < now.buttons.size(); j++) {
                for (int offset = 0; offset < 30 * step; offset += step) {
                    List<Integer> result = collision(buttonFrame(i), buttonFrame(j), offset);
                    if (fits(now.trains.get(slot), result, now.tolerance)) {
                        return List.of(i, j, offset).get(part);
                    }
                }
            }
        }
        return NONE;
    }

    public int ghosts(int offset) {
        if (out(offset, 0, 60000)) {
            return INVALID;
        }
        int pairs = 0;
        for (int i = 0; i < now.buttons.size(); i++) {
            for (int j = i; j < now.buttons.size(); j++) {
                boolean ghost = false;
                for (Frame frame : frames(collision(buttonFrame(i), buttonFrame(j), offset))) {
                    Decoded d = decode(frame.durations, now.tolerance);
                    if (d != null && d.code != -1) {
                        int identity = now.protocols.get(d.protocol).identity(d.code);
                        int shown = now.buttons.indexOf(new Button(d.protocol, identity));
                        ghost = ghost || shown >= 0 && shown != i && shown != j;
                    }
                }
                pairs += ghost ? 1 : 0;
            }
        }
        return pairs;
    }

    public int undo() {
        if (saved.isEmpty()) {
            return STATE;
        }
        now = saved.removeLast();
        return saved.size();
    }
}
