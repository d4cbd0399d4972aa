import java.io.IOException;
import java.lang.reflect.Array;
import java.lang.reflect.Constructor;
import java.lang.reflect.Field;
import java.lang.reflect.Method;
import java.lang.reflect.Modifier;
import java.nio.file.Files;
import java.nio.file.Path;
import java.util.ArrayDeque;
import java.util.Collections;
import java.util.Deque;
import java.util.IdentityHashMap;
import java.util.Set;
import java.util.TreeSet;
import java.util.regex.Matcher;
import java.util.regex.Pattern;

/** The face of the class, the rules of LANGUAGE.md that can be looked up, and the size of an object. */
public final class FormTests {
    private static final Path PROGRAM = Path.of("src/main/java/FastestRun.java");
    private static final String[] FACE = {
        "boolean board(int,int)", "boolean cell(int,int,int)", "boolean foe(int,int)", "boolean start(int,int)",
        "int press(int)", "int state(int)", "boolean save(int)", "boolean back(int)", "void begin()", "int least()",
        "int best(int)", "int claim(int)", "void unclaim()", "int prove(int)", "int differs()",
        "int split(int,int,int,int)", "void unsplit()", "int could()", "int road(int,int,int,int,int,int,int,int)",
        "boolean bar(int,boolean)", "boolean goal(int,int)", "boolean anew(int)", "int sure()",
        "long chance(int,int,int)", "int choice(int,int,int)", "int count(int)"};
    private static final Pattern LIBRARY = Pattern.compile(
        "Arrays\\.(copyOf|copyOfRange|fill)|System\\.arraycopy|(Math|Integer|Long)\\.\\w+(?<!Exact)");
    private static final Set<Class<?>> STATIC_TYPES = Set.of(
        int.class, long.class, boolean.class, char.class, String.class,
        int[].class, long[].class, char[].class, byte[].class);
    private static final int MOST_PARTS = 100_000;
    private static final int MOST_LINES = 60;
    private static final int MOST_FIELDS = 20;

    public static void main(String[] args) throws IOException, IllegalAccessException {
        theFace();
        theClassesInside();
        theFields();
        theWords();
        theLibrary();
        theLengths();
        theSize();
        Check.end();
    }

    private static void dueSame(String what, Set<String> got, Set<String> want) {
        Check.due(what + " " + got + " for " + want, got.equals(want), true);
    }

    private static void theFace() {
        Class<?> face = FastestRun.class;
        Check.due("public and final", face.getModifiers(), Modifier.PUBLIC | Modifier.FINAL);
        Set<String> methods = new TreeSet<>();
        for (Method method : face.getDeclaredMethods()) {
            if (!Modifier.isPrivate(method.getModifiers())) {
                Check.due(method.getName() + " is public", method.getModifiers(), Modifier.PUBLIC);
                methods.add(nameOf(method));
            }
        }
        dueSame("methods", methods, new TreeSet<>(Set.of(FACE)));
        Set<String> fields = new TreeSet<>();
        for (Field field : face.getDeclaredFields()) {
            if (!Modifier.isPrivate(field.getModifiers())) {
                fields.add(Modifier.toString(field.getModifiers()) + " " + field.getType() + " " + field.getName());
            }
        }
        dueSame("fields", fields, Set.of("public static final int NONE"));
        Check.due("one constructor", face.getDeclaredConstructors().length, 1);
        for (Constructor<?> constructor : face.getDeclaredConstructors()) {
            Check.due("it is public", constructor.getModifiers(), Modifier.PUBLIC);
            Check.due("it takes nothing", constructor.getParameterCount(), 0);
        }
    }

    private static String nameOf(Method method) {
        StringBuilder name = new StringBuilder();
        name.append(method.getReturnType()).append(' ').append(method.getName()).append('(');
        for (int i = 0; i < method.getParameterCount(); i++) {
            name.append(i == 0 ? "" : ",").append(method.getParameterTypes()[i]);
        }
        return name.append(')').toString();
    }

    private static void theClassesInside() {
        Set<String> publicNames = new TreeSet<>();
        for (String call : FACE) {
            publicNames.add(call.substring(call.indexOf(' ') + 1, call.indexOf('(')));
        }
        for (Method method : FastestRun.class.getDeclaredMethods()) {
            boolean borrowed = Modifier.isPrivate(method.getModifiers()) && publicNames.contains(method.getName());
            Check.due(method + " has a name of its own", borrowed, false);
        }
        for (Class<?> inside : FastestRun.class.getDeclaredClasses()) {
            Check.due(inside + " is static", Modifier.isStatic(inside.getModifiers()), true);
            Check.due(inside + " is not seen from outside", isOpen(inside.getModifiers()), false);
            Check.due(inside + " has none inside", inside.getDeclaredClasses().length, 0);
            for (Method method : inside.getDeclaredMethods()) {
                Check.due(method + " has a name of its own", publicNames.contains(method.getName()), false);
                Check.due(method + " takes seven at most", method.getParameterCount() <= 7, true);
            }
        }
        Check.due("twelve classes at most", FastestRun.class.getDeclaredClasses().length <= 11, true);
    }

    private static boolean isOpen(int modifiers) {
        return Modifier.isPublic(modifiers) || Modifier.isProtected(modifiers);
    }

    private static void theFields() {
        dueFields(FastestRun.class);
        for (Class<?> inside : FastestRun.class.getDeclaredClasses()) {
            dueFields(inside);
        }
    }

    private static void dueFields(Class<?> holder) {
        int ofObjects = 0;
        for (Field field : holder.getDeclaredFields()) {
            if (!Modifier.isStatic(field.getModifiers())) {
                ofObjects++;
                continue;
            }
            Check.due(field + " is final", Modifier.isFinal(field.getModifiers()), true);
            Check.due(field + " is a constant", STATIC_TYPES.contains(field.getType()), true);
        }
        Check.due(holder + " has few fields", ofObjects <= MOST_FIELDS, true);
    }

    /** The program without its comments; lines stay where they are. */
    private static String code() throws IOException {
        String text = Files.readString(PROGRAM).replaceAll("//[^\n]*", " ");
        Matcher comments = Pattern.compile("(?s)/\\*.*?\\*/").matcher(text);
        return comments.replaceAll(comment -> "\n".repeat((int) comment.group().lines().count() - 1));
    }

    private static void theLibrary() throws IOException {
        Matcher calls = Pattern.compile("\\b(([A-Z]\\w*)\\.\\w+)\\(").matcher(code());
        while (calls.find()) {
            boolean allowed = isInside(calls.group(2)) || LIBRARY.matcher(calls.group(1)).matches();
            Check.due("the program may call " + calls.group(1), allowed, true);
        }
    }

    private static boolean isInside(String name) {
        for (Class<?> inside : FastestRun.class.getDeclaredClasses()) {
            if (inside.getSimpleName().equals(name)) {
                return true;
            }
        }
        return false;
    }

    /** A method begins with the line that opens a brace behind its parameters, and ends with the same indent. */
    private static void theLengths() throws IOException {
        String[] lines = code().split("\n");
        Pattern opening = Pattern.compile("( {4}| {8})\\w[^=]*\\) \\{");
        Pattern statement = Pattern.compile(" *(if|for|while|switch|do|else)\\b.*");
        int methods = 0;
        for (int i = 0; i < lines.length; i++) {
            Matcher begin = opening.matcher(lines[i]);
            if (!begin.matches() || statement.matcher(lines[i]).matches()) {
                continue;
            }
            int end = i;
            while (end < lines.length && !lines[end].equals(begin.group(1) + "}")) {
                end++;
            }
            methods++;
            Check.due(lines[i].trim() + " is short", end - i + 1 <= MOST_LINES, true);
        }
        Check.due("methods were found", methods > FACE.length, true);
    }

    private static void theWords() throws IOException {
        String text = code();
        String[] banned = {
            "throw", "throws", "try", "catch", "synchronized", "assert", "package", "->", "::", "Random", "Thread",
            "hashCode", "toString", "equals", "float", "double", "static \\{", "Exact\\("};
        for (String word : banned) {
            boolean isWord = Character.isLetter(word.charAt(0)) && Character.isLetter(word.charAt(word.length() - 1));
            String pattern = isWord ? "\\b" + word + "\\b" : word;
            Check.due("the program holds " + word, Pattern.compile(pattern).matcher(text).find(), false);
        }
        Set<String> imports = new TreeSet<>();
        for (String line : text.split("\n")) {
            if (line.startsWith("import ")) {
                imports.add(line.trim());
            }
        }
        dueSame("imports", imports, Set.of("import java.util.Arrays;"));
    }

    /** Counts objects, fields and elements: what one run makes has to fit into one room. */
    private static void theSize() throws IllegalAccessException {
        FastestRun f = new FastestRun();
        long[] fresh = partsOf(f);
        for (int i = 0; i < 100; i++) {
            f.road(i % 10, i % 7, 0, i % 16, 1 + i % 9, 1 + i % 8, i % 10, 1);
            f.press(i % 5);
            f.claim(i % 5);
            f.save(i % 4);
            f.split(1, 1, 0, 200);
            f.could();
            f.least();
            f.chance(0, 0, 300);
        }
        long[] used = partsOf(f);
        Check.due("objects and arrays, used", used[0], fresh[0]);
        Check.due("fields and elements, used", used[1], fresh[1]);
        Check.due("few enough fields and elements", fresh[1] < MOST_PARTS, true);
    }

    private static long[] partsOf(Object root) throws IllegalAccessException {
        Set<Object> seen = Collections.newSetFromMap(new IdentityHashMap<>());
        Deque<Object> open = new ArrayDeque<>();
        long parts = 0;
        seen.add(root);
        open.add(root);
        while (!open.isEmpty()) {
            Object object = open.remove();
            if (object.getClass().isArray()) {
                int length = Array.getLength(object);
                parts += length;
                for (int i = 0; i < length && !object.getClass().getComponentType().isPrimitive(); i++) {
                    visit(Array.get(object, i), seen, open);
                }
                continue;
            }
            for (Field field : object.getClass().getDeclaredFields()) {
                if (!Modifier.isStatic(field.getModifiers())) {
                    parts++;
                    field.setAccessible(true);
                    if (!field.getType().isPrimitive()) {
                        visit(field.get(object), seen, open);
                    }
                }
            }
        }
        return new long[] {seen.size(), parts};
    }

    private static void visit(Object object, Set<Object> seen, Deque<Object> open) {
        if (object != null && seen.add(object)) {
            open.add(object);
        }
    }
}
