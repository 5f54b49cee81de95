import java.lang.reflect.Method;
import java.util.ArrayList;
import java.util.HashMap;
import java.util.List;
import java.util.Map;
import java.util.Random;
import java.util.TreeMap;

/**
 * Random runs of calls, each made on a PulseRemote and on a PlainRemote; every answer must be the same.
 * The seeds are fixed, so that the runs are always the same ones.
 */
public final class RandomRunsTest {
    private static final int RUNS = 300;
    private static final int CALLS = 512;
    private static final int ODD_ONE_IN = 40;
    private static final int[] SPACES = {1, 300, 999, 1000, 1001, 2000, 10000, 10001, 15000, 20000, 20001, 39999,
        40000, 40001, 59999, 60000};
    private static final int[] EDGES = {Integer.MIN_VALUE, -1, 0, 1, 2, 3, 5, 6, 12, 29, 30, 31, 40, 41, 49, 50, 199,
        200, 201, 255, 256, 999, 1000, 2000, 2001, 20000, 20001, 60000, 60001, 65535, 65536, Integer.MAX_VALUE};

    private static final Map<String, Method> PROGRAM = methods(PulseRemote.class);
    private static final Map<String, Method> PLAIN = methods(PlainRemote.class);
    private static final Map<String, Integer> REACHED = new TreeMap<>();
    private static int wrong = 0;

    private final Random random;
    private final int run;
    private final PulseRemote program = new PulseRemote();
    private final PlainRemote plain = new PlainRemote();
    private final List<String> log = new ArrayList<>();
    private final boolean tight;
    private final int maxBits;
    private int calls = 0;

    private RandomRunsTest(int run) {
        this.run = run;
        random = new Random(run);
        tight = run % 4 != 3;
        maxBits = run % 5 == 4 ? 16 : 4;
    }

    private static Map<String, Method> methods(Class<?> type) {
        Map<String, Method> methods = new HashMap<>();
        for (Method method : type.getDeclaredMethods()) {
            if (java.lang.reflect.Modifier.isPublic(method.getModifiers())) {
                methods.put(method.getName(), method);
            }
        }
        return methods;
    }

    public static void main(String[] args) throws ReflectiveOperationException {
        int runs = args.length > 0 ? Integer.parseInt(args[0]) : RUNS;
        for (int run = 0; run < runs && wrong < 5; run++) {
            new RandomRunsTest(run).play();
        }
        for (String needed : List.of("learn ok", "learn -2", "learn -3", "overlay ok",
                "overlay -3", "overlay -2", "explain ok", "explain -9", "ghosts 0", "ghosts 1", "undo -2", "send -3",
                "sendShort -3", "append -3", "addButton -3", "addProtocol -3",
                "neededTolerance ok", "neededTolerance -9", "press -9", "deviation ok")) {
            if (wrong == 0 && runs >= RUNS && REACHED.getOrDefault(needed, 0) < 5) {
                wrong++;
                System.out.println("the runs hardly reach " + needed + ": " + REACHED.get(needed));
            }
        }
        if (args.length > 0) {
            System.out.println(REACHED);
        }
        System.out.println(wrong == 0 ? runs + " random runs agree" : wrong + " random runs do not agree");
        if (wrong != 0) {
            System.exit(1);
        }
    }

    private void play() throws ReflectiveOperationException {
        if (tight) {
            call("setTolerance", pick(0, 5, 20, 25, 33, 40));
        }
        while (calls < CALLS - 150 && wrong == 0) {
            act();
        }
        if (wrong == 0) {
            lookAtAll();
        }
    }

    /** Makes a call on both; answers what the plain one answers. */
    private int call(String name, Integer... args) throws ReflectiveOperationException {
        if (calls >= CALLS || wrong > 0) {
            return PulseRemote.NONE;
        }
        calls++;
        Object[] given = new Object[args.length];
        for (int i = 0; i < args.length; i++) {
            given[i] = random.nextInt(ODD_ONE_IN * args.length) == 0 ? EDGES[random.nextInt(EDGES.length)] : args[i];
        }
        int due = (Integer) PLAIN.get(name).invoke(plain, given);
        String told = name + java.util.Arrays.toString(given);
        Object got;
        try {
            got = PROGRAM.get(name).invoke(program, given);
        } catch (java.lang.reflect.InvocationTargetException e) {
            got = e.getCause();
        }
        log.add(told + " -> " + got);
        if (!got.equals(due)) {
            wrong++;
            System.out.println("run " + run + ": " + told + " answered " + got + ", due is " + due);
            log.forEach(row -> System.out.println("    " + row));
        }
        String kind = due < 0 || name.equals("ghosts") ? "" + Math.min(due, 1) : "ok";
        REACHED.merge(name + " " + kind, 1, Integer::sum);
        return due;
    }

    private int pick(int... of) {
        return of[random.nextInt(of.length)];
    }

    private int slot() {
        return random.nextInt(3);
    }

    private int protocol() {
        return random.nextInt(Math.max(1, plain.count(0)));
    }

    private int code(int protocol) {
        int bits = Math.max(1, plain.protocol(protocol, 6));
        return random.nextInt(1 << bits);
    }

    private int length() {
        return tight ? pick(50, 100, 120, 140, 150, 170, 200, 250, 300, 400, 500)
                : pick(50, 51, 200, 560, 1690, 4500, 9000, 19999, 20000, 50 + random.nextInt(19951));
    }

    private void act() throws ReflectiveOperationException {
        int chance = random.nextInt(100);
        if (chance < 12) {
            addProtocol();
        } else if (chance < 22) {
            int protocol = protocol();
            call("addButton", protocol, code(protocol));
        } else if (chance < 42) {
            send();
        } else if (chance < 46) {
            call("append", slot(), random.nextBoolean() ? length() : pick(SPACES));
        } else if (chance < 50) {
            set();
        } else if (chance < 53) {
            call("undo");
        } else if (chance < 56) {
            call("clear", slot());
        } else if (chance < 59) {
            call("distort", slot(), random.nextInt(31), random.nextInt(2));
        } else if (chance < 62) {
            call("overlay", slot(), slot(), random.nextBoolean() ? 50 * random.nextInt(30) : random.nextInt(60001));
        } else if (chance < 65) {
            collide();
        } else if (chance < 68) {
            call("ghosts", random.nextBoolean() ? 50 * random.nextInt(30) : random.nextInt(60001));
        } else if (chance < 73) {
            learn();
        } else if (chance < 74) {
            makeTwins();
        } else {
            look();
        }
    }

    private void addProtocol() throws ReflectiveOperationException {
        int kind = random.nextInt(3);
        int bits = 1 + random.nextInt(maxBits);
        int number = random.nextInt(3) == 0 ? protocol()
                : call("addProtocol", kind, bits, random.nextInt(2), random.nextInt(3));
        if (random.nextInt(10) == 0) {
            return;
        }
        boolean phase = plain.protocol(number, 0) == 2;
        call("setLengths", number, tight ? pick(200, 250, 300) : length(), length(), length(),
                phase ? 0 : length(), phase ? 0 : length());
    }

    private void send() throws ReflectiveOperationException {
        int slot = slot();
        int protocol = protocol();
        int code = code(protocol);
        int space = pick(SPACES);
        int times = random.nextInt(4) == 0 ? 1 + random.nextInt(12) : 1;
        for (int i = 0; i < times; i++) {
            if (plain.length(slot) > 0 && plain.length(slot) % 2 == 0) {
                call("append", slot, length());
            } else if (random.nextInt(4) == 0) {
                call("sendShort", slot, protocol, space);
            } else {
                call("send", slot, protocol, random.nextInt(3) == 0 ? code(protocol) : code, space);
            }
        }
    }

    private void set() throws ReflectiveOperationException {
        switch (random.nextInt(3)) {
            case 0 -> call("setGap", pick(1000, 1001, 2000, 10000, 20000, 60000));
            case 1 -> call("setHold", pick(1000, 2000, 10001, 20000, 40000, 60000));
            default -> call("setTolerance", random.nextInt(41));
        }
    }

    private void collide() throws ReflectiveOperationException {
        int step = pick(50, 100, 170, 560, 2000);
        int buttons = plain.count(1);
        if (buttons == 0 || buttons > 8 && random.nextInt(4) > 0) {
            return;
        }
        int offset = random.nextInt(32) * step;
        for (int slot = 0; slot < 2; slot++) {
            int button = random.nextInt(buttons);
            call("clear", slot);
            call("send", slot, plain.button(button, 0), plain.button(button, 1), 1);
        }
        call("overlay", 0, 1, offset);
        if (random.nextBoolean()) {
            call("distort", 0, random.nextInt(30), random.nextInt(2));
        }
        for (int part = 0; part < 3; part++) {
            call("explain", 0, step, part);
        }
    }

    /** Two protocols that read each other's frames, with many buttons: their collisions show ghosts. */
    private void makeTwins() throws ReflectiveOperationException {
        int kind = random.nextInt(3);
        int bits = 1 + random.nextInt(3);
        int[] lengths = {200, length(), length(), kind == 2 ? 0 : length(), kind == 2 ? 0 : length()};
        while (call("undo") > 0) {
            continue;
        }
        for (int i = 0; i < 2; i++) {
            int number = call("addProtocol", kind, bits, random.nextInt(2), random.nextInt(3));
            call("setLengths", number, lengths[0], lengths[1], lengths[2], lengths[3], lengths[4]);
            for (int code = 0; code < 1 << bits; code++) {
                call("addButton", number, code);
            }
        }
        for (int offset : new int[] {0, 50, 100, 150, 200, random.nextInt(3000), 30000, 60000}) {
            call("ghosts", offset);
        }
    }

    private void learn() throws ReflectiveOperationException {
        int slot = slot();
        call("clusters", slot, 0);
        call("clusters", slot, 1);
        int number = call("learn", slot);
        if (number < 0 && random.nextBoolean()) {
            int protocol = protocol();
            call("clear", slot);
            call("send", slot, protocol, code(protocol), 1);
            call("send", slot, protocol, code(protocol), pick(SPACES));
            call("distort", slot, random.nextInt(31), random.nextInt(2));
            number = call("learn", slot);
        }
        for (int what = 0; what <= 8; what++) {
            if (number >= 0) {
                call("protocol", number, what);
            }
        }
    }

    private void look() throws ReflectiveOperationException {
        int slot = slot();
        int frame = random.nextInt(Math.max(1, plain.frameCount(slot) + 1));
        int press = random.nextInt(Math.max(1, plain.pressCount(slot) + 1));
        switch (random.nextInt(14)) {
            case 0 -> call("frameCount", slot);
            case 1, 2, 3 -> call("frame", slot, frame, random.nextInt(5));
            case 4, 5 -> call("deviation", slot, frame);
            case 6 -> call("pressCount", slot);
            case 7, 8 -> call("press", slot, press, random.nextInt(4));
            case 9 -> call("strayCount", slot);
            case 10 -> call("neededTolerance", slot);
            case 11 -> call("protocol", protocol(), random.nextInt(9));
            case 12 -> call("button", random.nextInt(Math.max(1, plain.count(1))), random.nextInt(2));
            default -> call("count", random.nextInt(4));
        }
    }

    private void lookAtAll() throws ReflectiveOperationException {
        for (int what = 0; what < 4; what++) {
            call("count", what);
        }
        for (int slot = 0; slot < 3; slot++) {
            call("length", slot);
            call("pressCount", slot);
            call("strayCount", slot);
            call("neededTolerance", slot);
            for (int frame = 0; frame < Math.min(8, plain.frameCount(slot)); frame++) {
                call("frame", slot, frame, 2);
                call("frame", slot, frame, 3);
                call("deviation", slot, frame);
            }
        }
        for (int slot = 0; slot < 3; slot++) {
            for (int press = 0; press < Math.min(8, plain.pressCount(slot)); press++) {
                call("press", slot, press, 2);
                call("press", slot, press, 3);
            }
        }
        while (calls < CALLS && wrong == 0) {
            call("duration", slot(), random.nextInt(200));
        }
    }
}
