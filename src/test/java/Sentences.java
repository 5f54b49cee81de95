import java.io.IOException;
import java.lang.annotation.ElementType;
import java.lang.annotation.Retention;
import java.lang.annotation.RetentionPolicy;
import java.lang.annotation.Target;
import java.lang.reflect.InvocationTargetException;
import java.lang.reflect.Method;
import java.nio.file.Files;
import java.nio.file.Path;
import java.util.ArrayList;
import java.util.Arrays;
import java.util.Comparator;
import java.util.LinkedHashMap;
import java.util.List;
import java.util.Map;

/**
 * What the tests of single sentences share (SentencesOf..Test, a class for each part of the document).
 *
 * A test is a static method. Its name begins with the section whose sentence it is for, "promise16_" or
 * "trains_", and Says tells the sentence in the document's words; runAll() looks them up in the document.
 */
abstract class Sentences {
    static final int INVALID = PulseRemote.INVALID_ARGUMENT;
    static final int STATE = PulseRemote.ILLEGAL_STATE;
    static final int CAPACITY = PulseRemote.CAPACITY_EXCEEDED;
    static final int NONE = PulseRemote.NONE;
    static final int DISTANCE = 0;
    static final int WIDTH = 1;
    static final int PHASE = 2;
    static final int HIGHEST = 0;
    static final int LOWEST = 1;
    static final int WHOLE = 0;
    static final int SHORT = 1;
    static final int TOGGLED = 2;

    private static final Path DOCUMENT = Path.of("../shared/DOC.md");

    private static String test = "";
    private static int checks = 0;
    private static int wrong = 0;

    Sentences() { }

    /** The sentence, or the part of one, that a test is for, in the document's words. */
    @Retention(RetentionPolicy.RUNTIME)
    @Target(ElementType.METHOD)
    @interface Says {
        String value();
    }

    /** What is done to a new object before the call that is looked at. */
    interface Setup {
        void on(PulseRemote x);

        default Setup then(Setup next) {
            return x -> {
                on(x);
                next.on(x);
            };
        }
    }

    /** A call whose answer is looked at. */
    interface Call {
        int on(PulseRemote x);
    }

    /** A call with one argument that is looked at. */
    interface CallWith {
        int on(PulseRemote x, int argument);
    }

    /** What an object shows; it may change the object, for each view has an object of its own. */
    private interface View {
        void of(PulseRemote x, List<Integer> shown);
    }

    // ---- objects

    static final Setup NEW = x -> { };

    /** Something of everything, and six saved states that differ. */
    static final Setup RICH = protocol(DISTANCE, 4, HIGHEST, SHORT).then(protocol(WIDTH, 3, LOWEST, TOGGLED))
            .then(x -> {
                x.addProtocol(PHASE, 5, HIGHEST, WHOLE);
                x.addButton(0, 5);
                x.addButton(1, 6);
                x.send(0, 0, 5, 1);
                x.sendShort(0, 0, 20000);
                x.send(0, 0, 9, 45000);
                x.send(1, 1, 3, 1);
                x.append(2, 70);
                x.append(2, 20);
                x.addButton(1, 5);
                x.send(1, 1, 3, 12000);
                x.append(2, 90);
                x.setGap(9000);
                x.setHold(30000);
                x.setTolerance(15);
            }).then(text("proto0"));

    static PulseRemote made(Setup setup) {
        PulseRemote x = new PulseRemote();
        setup.on(x);
        return x;
    }

    /** A further protocol: H 900, S 450, A 100, and B 100 and C 300 but for phase. */
    static Setup protocol(int kind, int bits, int order, int repetition) {
        return protocol(kind, bits, order, repetition, kind == PHASE ? new int[] {900, 450, 100, 0, 0}
                : new int[] {900, 450, 100, 100, 300});
    }

    /** A further protocol with its lengths H, S, A, B and C. */
    static Setup protocol(int kind, int bits, int order, int repetition, int... lengths) {
        return x -> {
            int number = x.addProtocol(kind, bits, order, repetition);
            x.setLengths(number, lengths[0], lengths[1], lengths[2], lengths[3], lengths[4]);
        };
    }

    static Setup train(int slot, int... durations) {
        return x -> {
            for (int duration : durations) {
                x.append(slot, duration);
            }
        };
    }

    /** So many durations, all the same. */
    static Setup longTrain(int slot, int size, int duration) {
        return times(size, x -> x.append(slot, duration));
    }

    static Setup text(String text) {
        return x -> {
            for (char character : text.toCharArray()) {
                x.appendCharacter(character);
            }
        };
    }

    static Setup times(int times, Setup setup) {
        return x -> {
            for (int i = 0; i < times; i++) {
                setup.on(x);
            }
        };
    }

    // ---- checks

    static void due(String what, int got, int due) {
        checks++;
        if (got != due) {
            wrong++;
            System.out.println(test + ", line " + line() + ": " + what + " is " + got + ", due is " + due);
        }
    }

    static void dueTrain(PulseRemote x, int slot, int... durations) {
        due("the length of train " + slot, x.length(slot), durations.length);
        for (int i = 0; i < durations.length; i++) {
            due("duration " + i, x.duration(slot, i), durations[i]);
        }
    }

    /** The properties of a protocol, from its kind (0) to its repetition (8). */
    static void dueProtocol(PulseRemote x, int protocol, int... properties) {
        for (int what = 0; what < properties.length; what++) {
            due("property " + what + " of protocol " + protocol, x.protocol(protocol, what), properties[what]);
        }
    }

    static void answers(Setup setup, Call call, int due) {
        due("the answer", call.on(made(setup)), due);
    }

    /** The call is refused with this answer, and the object shows afterwards what it showed before. */
    static void refused(Setup setup, Call call, int due) {
        PulseRemote asked = made(setup);
        due("the answer of a refused call", call.on(asked), due);
        due("its answer when it is made again", call.on(asked), due);
        unchangedBy(setup, call);
    }

    /** The object shows after the call what it showed before. */
    static void unchangedBy(Setup setup, Call call) {
        List<View> views = views();
        for (int i = 0; i < views.size(); i++) {
            List<Integer> before = shown(views.get(i), setup);
            List<Integer> after = shown(views.get(i), setup.then(call::on));
            checks++;
            if (!before.equals(after)) {
                wrong++;
                System.out.println(test + ", line " + line() + ": the call changed what view " + i + " shows"
                        + difference(before, after));
            }
        }
    }

    /** What is read before a change does not show in what is read after it. */
    static void readAnew(Setup setup, Setup change) {
        for (int slot = 0; slot < 3; slot++) {
            List<Integer> shown = new ArrayList<>();
            PulseRemote x = made(setup);
            for (int read = 0; read < 3; read++) {
                decoded(x, read, new ArrayList<>());
            }
            change.on(x);
            decoded(x, slot, shown);
            List<Integer> fresh = new ArrayList<>();
            decoded(made(setup.then(change)), slot, fresh);
            checks++;
            if (!shown.equals(fresh)) {
                wrong++;
                System.out.println(test + ", line " + line() + ": without the readings before and with them, slot "
                        + slot + difference(fresh, shown));
            }
        }
    }

    /** Where two views differ first. */
    private static String difference(List<Integer> before, List<Integer> after) {
        for (int i = 0; i < Math.min(before.size(), after.size()); i++) {
            if (!before.get(i).equals(after.get(i))) {
                return ": answer " + i + " of it was " + before.get(i) + ", and is " + after.get(i);
            }
        }
        return ": it had " + before.size() + " answers, and has " + after.size();
    }

    /** Arguments from low to high are allowed: the answers for the two are due; others are invalid. */
    static void between(Setup setup, CallWith call, int low, int dueLow, int high, int dueHigh) {
        answers(setup, x -> call.on(x, low), dueLow);
        answers(setup, x -> call.on(x, high), dueHigh);
        for (int argument : new int[] {low - 1, high + 1, Integer.MIN_VALUE, Integer.MAX_VALUE}) {
            refused(setup, x -> call.on(x, argument), INVALID);
        }
    }

    /** Slots are 0 to 2; the answers of a call in RICH, for each slot, are due. */
    static void slots(CallWith call, int due0, int due1, int due2) {
        between(RICH, call, 0, due0, 2, due2);
        answers(RICH, x -> call.on(x, 1), due1);
    }

    // ---- views: none makes more than 110 calls, so that a setup has 400

    private static List<Integer> shown(View view, Setup setup) {
        List<Integer> shown = new ArrayList<>();
        view.of(made(setup), shown);
        return shown;
    }

    private static List<View> views() {
        List<View> views = new ArrayList<>(List.of(Sentences::table, Sentences::settings, Sentences::textAndLoad));
        for (int slot = 0; slot < 3; slot++) {
            int of = slot;
            views.add((x, shown) -> durations(x, of, 0, 99, shown));
            views.add((x, shown) -> durations(x, of, 100, 200, shown));
            views.add((x, shown) -> decoded(x, of, shown));
        }
        for (int times = 1; times <= 7; times++) {
            int undone = times;
            views.add((x, shown) -> pastTable(x, undone, shown));
            views.add((x, shown) -> pastTrains(x, undone, shown));
        }
        return views;
    }

    private static void table(PulseRemote x, List<Integer> shown) {
        for (int what = 0; what < 4; what++) {
            shown.add(x.count(what));
        }
        for (int protocol = 0; protocol < 7; protocol++) {
            for (int what = 0; what < 9; what++) {
                shown.add(x.protocol(protocol, what));
            }
        }
        for (int button = 0; button < 13; button++) {
            shown.add(x.button(button, 0));
            shown.add(x.button(button, 1));
        }
    }

    /** What was set is only seen when it is set again. */
    private static void settings(PulseRemote x, List<Integer> shown) {
        shown.addAll(List.of(x.setGap(1000), x.setHold(1000), x.setTolerance(0), x.count(3)));
    }

    /** What stands in a text is only seen when it is read. */
    private static void textAndLoad(PulseRemote x, List<Integer> shown) {
        shown.addAll(List.of(x.count(2), x.load(), x.count(2), x.appendCharacter(';'), x.load()));
        table(x, shown);
    }

    private static void durations(PulseRemote x, int slot, int from, int to, List<Integer> shown) {
        int length = x.length(slot);
        shown.add(length);
        for (int i = from; i <= Math.min(to, length); i++) {
            shown.add(x.duration(slot, i));
        }
    }

    private static void decoded(PulseRemote x, int slot, List<Integer> shown) {
        shown.addAll(List.of(x.frameCount(slot), x.pressCount(slot), x.strayCount(slot), x.neededTolerance(slot),
                x.clusters(slot, 0), x.clusters(slot, 1), x.explain(slot, 50, 2), x.ghosts(20000)));
        for (int i = 0; i < 8; i++) {
            for (int what = 0; what < 5; what++) {
                shown.add(x.frame(slot, i, what));
            }
            shown.add(x.deviation(slot, i));
            for (int what = 0; what < 4; what++) {
                shown.add(x.press(slot, i, what));
            }
        }
    }

    private static void undo(PulseRemote x, int times, List<Integer> shown) {
        for (int i = 0; i < times; i++) {
            shown.add(x.undo());
        }
    }

    private static void pastTable(PulseRemote x, int undone, List<Integer> shown) {
        undo(x, undone, shown);
        table(x, shown);
        settings(x, shown);
    }

    private static void pastTrains(PulseRemote x, int undone, List<Integer> shown) {
        undo(x, undone, shown);
        for (int slot = 0; slot < 3; slot++) {
            durations(x, slot, 0, 25, shown);
        }
    }

    // ---- running

    /** Runs every test of a class, and looks up in the document what it says. */
    static void runAll(Class<?> tests) {
        Map<String, String> document = document();
        int run = 0;
        for (Method method : testsOf(tests)) {
            test = method.getName();
            lookUp(document, method);
            try {
                method.setAccessible(true);
                method.invoke(null);
            } catch (InvocationTargetException e) {
                wrong++;
                System.out.println(test + " ended by " + e.getCause());
            } catch (IllegalAccessException e) {
                throw new IllegalStateException(e);
            }
            run++;
        }
        if (run == 0) {
            wrong++;
        }
        System.out.println(wrong == 0 ? run + " sentences hold, by " + checks + " checks"
                : wrong + " checks failed");
        if (wrong != 0) {
            System.exit(1);
        }
    }

    /** The tests of a class, in the order of their names. */
    static List<Method> testsOf(Class<?> tests) {
        List<Method> methods = new ArrayList<>(Arrays.asList(tests.getDeclaredMethods()));
        methods.removeIf(method -> !method.isAnnotationPresent(Says.class));
        methods.sort(Comparator.comparing(Method::getName));
        return methods;
    }

    /** The section that the name of a test tells: "promise 16", "trains" or "public face". */
    static String sectionOf(Method method) {
        String name = method.getName();
        return name.substring(0, Math.max(0, name.indexOf('_')));
    }

    static String quoteOf(Method method) {
        return method.getAnnotation(Says.class).value();
    }

    private static void lookUp(Map<String, String> document, Method method) {
        String section = document.get(sectionOf(method));
        if (!document.isEmpty() && (section == null || !section.contains(quoteOf(method)))) {
            wrong++;
            System.out.println(test + ": the document does not say \"" + quoteOf(method) + "\" there");
        }
    }

    /** The document's sections, each on one line, by the names that tests give them. */
    static Map<String, String> document() {
        Map<String, String> sections = new LinkedHashMap<>();
        if (!Files.exists(DOCUMENT)) {
            return sections;
        }
        String section = "";
        try {
            for (String row : Files.readAllLines(DOCUMENT)) {
                if (row.startsWith("#")) {
                    section = nameOf(row);
                } else {
                    sections.merge(section, row, (before, next) -> before + " " + next);
                }
            }
        } catch (IOException e) {
            throw new IllegalStateException(e);
        }
        sections.replaceAll((name, said) -> said.replaceAll("\\s+", " ").trim());
        return sections;
    }

    /** "## Promise 2: addProtocol" is promise02, "## The public face" is thePublicFace. */
    private static String nameOf(String heading) {
        String title = heading.replaceAll("^#+ ", "");
        if (title.startsWith("Promise ")) {
            int number = Integer.parseInt(title.substring(8, title.indexOf(':')));
            return (number < 10 ? "promise0" : "promise") + number;
        }
        StringBuilder name = new StringBuilder();
        for (String word : title.split(" ")) {
            name.append(name.isEmpty() ? word.substring(0, 1).toLowerCase() : word.substring(0, 1).toUpperCase());
            name.append(word.substring(1));
        }
        return name.toString();
    }

    /** The line of the test that stands open. */
    private static String line() {
        return StackWalker.getInstance().walk(frames -> frames
                .filter(frame -> frame.getMethodName().equals(test))
                .findFirst().map(frame -> "" + frame.getLineNumber()).orElse("?"));
    }
}
