import java.io.IOException;
import java.lang.reflect.Constructor;
import java.lang.reflect.Field;
import java.lang.reflect.Method;
import java.lang.reflect.Modifier;
import java.nio.file.Files;
import java.nio.file.Path;
import java.util.Arrays;
import java.util.HashSet;
import java.util.List;
import java.util.Set;
import java.util.TreeSet;
import java.util.regex.Matcher;
import java.util.regex.Pattern;

/** The rules of LANGUAGE.md that can be seen in the class and in its text. */
public final class RulesTest {
    private static final Path SOURCE = Path.of("src/main/java/PulseRemote.java");
    private static final List<String> FACE = List.of("addProtocol 4", "setLengths 6", "protocol 2", "count 1",
            "learn 1", "clusters 2", "addButton 2", "button 2", "setGap 1", "setHold 1", "setTolerance 1",
            "appendCharacter 1", "clearText 0", "load 0", "append 2", "send 4", "sendShort 3", "clear 1",
            "overlay 3", "distort 3", "duration 2", "length 1", "frameCount 1", "frame 3", "deviation 2",
            "pressCount 1", "press 3", "strayCount 1", "neededTolerance 1", "explain 3", "ghosts 1", "undo 0");
    private static final List<String> CONSTANTS =
            List.of("INVALID_ARGUMENT", "ILLEGAL_STATE", "CAPACITY_EXCEEDED", "NONE");
    private static final String FORBIDDEN =
            "\\b(throw|throws|try|catch|synchronized|assert|import|package|native|volatile|transient|var|yield"
            + "|float|double|hashCode|toString|\\w+Exact)\\b|System\\.(?!arraycopy)|static\\s*\\{|->|::|\\$|@";
    private static final int LONGEST_METHOD = 60;
    private static final int MOST_PARAMETERS = 7;
    private static final int MOST_FIELDS = 20;
    private static final int MOST_CLASSES = 13;

    private static int wrong = 0;

    private RulesTest() { }

    public static void main(String[] args) throws IOException {
        face();
        Set<String> publicNames = new HashSet<>();
        FACE.forEach(row -> publicNames.add(row.split(" ")[0]));
        for (Class<?> type : types()) {
            members(type, publicNames);
        }
        hold(types().size() <= MOST_CLASSES, "there are " + types().size() + " classes");
        words(withoutComments(Files.readString(SOURCE)));
        methodLengths(Files.readAllLines(SOURCE));
        System.out.println(wrong == 0 ? "the rules are kept" : wrong + " rules are not kept");
        if (wrong != 0) {
            System.exit(1);
        }
    }

    private static void hold(boolean holds, String otherwise) {
        if (!holds) {
            wrong++;
            System.out.println(otherwise);
        }
    }

    private static List<Class<?>> types() {
        List<Class<?>> types = new java.util.ArrayList<>(List.of(PulseRemote.class));
        types.addAll(Arrays.asList(PulseRemote.class.getDeclaredClasses()));
        return types;
    }

    private static void face() {
        Set<String> methods = new TreeSet<>();
        for (Method method : PulseRemote.class.getDeclaredMethods()) {
            if (!Modifier.isPrivate(method.getModifiers())) {
                methods.add(method.getName() + " " + method.getParameterCount());
                hold(Modifier.isPublic(method.getModifiers()) && !Modifier.isStatic(method.getModifiers())
                        && method.getReturnType() == int.class, method + " is not of the face");
                for (Class<?> parameter : method.getParameterTypes()) {
                    hold(parameter == int.class, method + " takes something else than int");
                }
            }
        }
        hold(methods.equals(new TreeSet<>(FACE)), "the face is " + methods);
        Set<String> constants = new HashSet<>();
        for (Field field : PulseRemote.class.getDeclaredFields()) {
            if (!Modifier.isPrivate(field.getModifiers())) {
                constants.add(field.getName());
                hold(Modifier.isPublic(field.getModifiers()) && field.getType() == int.class, field + " is open");
            }
        }
        hold(constants.equals(new HashSet<>(CONSTANTS)), "the constants are " + constants);
        int modifiers = PulseRemote.class.getModifiers();
        hold(Modifier.isPublic(modifiers) && Modifier.isFinal(modifiers), "the class is not public and final");
        Constructor<?>[] constructors = PulseRemote.class.getDeclaredConstructors();
        hold(constructors.length == 1 && Modifier.isPublic(constructors[0].getModifiers())
                && constructors[0].getParameterCount() == 0, "the constructor is another one");
    }

    private static void members(Class<?> type, Set<String> publicNames) {
        if (type != PulseRemote.class) {
            int modifiers = type.getModifiers();
            hold(Modifier.isStatic(modifiers) && !Modifier.isPublic(modifiers) && !Modifier.isProtected(modifiers),
                    type + " is not static, or open");
        }
        int fields = 0;
        for (Field field : type.getDeclaredFields()) {
            boolean isStatic = Modifier.isStatic(field.getModifiers());
            hold(!isStatic || Modifier.isFinal(field.getModifiers()) && field.getType().isPrimitive(),
                    field + " is static, but no constant");
            fields += isStatic ? 0 : 1;
        }
        hold(fields <= MOST_FIELDS, type + " has " + fields + " fields");
        for (Method method : type.getDeclaredMethods()) {
            hold(method.getParameterCount() <= MOST_PARAMETERS, method + " has many parameters");
            boolean isOfFace = type == PulseRemote.class && Modifier.isPublic(method.getModifiers());
            hold(isOfFace || !publicNames.contains(method.getName()), method + " has the name of a public one");
        }
    }

    private static String withoutComments(String source) {
        return source.replaceAll("(?s)/\\*.*?\\*/", " ").replaceAll("//[^\n]*", " ");
    }

    private static void words(String code) {
        Matcher matcher = Pattern.compile(FORBIDDEN).matcher(code);
        while (matcher.find()) {
            hold(false, "the text has " + matcher.group());
        }
        for (char sign : code.toCharArray()) {
            hold(sign < 128, "the text has a sign beyond 127");
        }
    }

    private static void methodLengths(List<String> lines) {
        Pattern start = Pattern.compile("( {4,8})[^ *].*\\) \\{");
        int since = -1;
        String end = "";
        for (int i = 0; i < lines.size(); i++) {
            Matcher matcher = start.matcher(lines.get(i));
            if (since < 0 && matcher.matches()) {
                since = i;
                end = matcher.group(1) + "}";
            } else if (since >= 0 && lines.get(i).equals(end)) {
                hold(i - since < LONGEST_METHOD, "the method of line " + (since + 1) + " is long");
                since = -1;
            }
        }
    }
}
