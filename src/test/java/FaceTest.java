import java.io.IOException;
import java.lang.reflect.Constructor;
import java.lang.reflect.Field;
import java.lang.reflect.Method;
import java.lang.reflect.Modifier;
import java.nio.file.Files;
import java.nio.file.Path;
import java.util.Arrays;
import java.util.HashSet;
import java.util.Set;
import java.util.TreeSet;
import java.util.regex.Matcher;
import java.util.regex.Pattern;

/** The document's face, no member more and none less, and those rules of LANGUAGE.md that can be read off the file. */
public final class FaceTest {
    private static final String[] METHODS = {
        "int type(int)", "int clear()", "int box()", "int ring(int)", "int wheel(int,int,int)", "int pen(int,int)",
        "int curve(int,int)", "int draws(int,int,int,int,int)", "int rubs(int)", "int spins(int)", "int fills(int,int)",
        "int undo()", "int now(int)", "int shown(int,int)", "int petals(int,int)", "int closes(int,int,int)",
        "int best(int,int)", "int meet(int,int)", "int odds(int,int,int,int)", "int sees(int,int)", "int forget()",
        "int guess(int,int)", "int look(int)", "int mark(int,int)", "int keep(int)", "int back(int)", "int count(int)",
        "long trace()"};
    private static final String[] CONSTANTS = {"BAD", "STATE", "FULL", "NONE", "NO"};
    private static final String[] WORDS = {
        "throw", "throws", "try", "catch", "synchronized", "assert", "package", "protected", "Object", "hashCode", "toString",
        "\\w+Exact", "double", "float", "random", "System", "Thread", "native", "volatile", "transient"};

    private static final Set<String> LIBRARY = Set.of("Math.min", "Math.max", "Math.floorMod", "Arrays.fill", "Arrays.copyOf");
    private static final int MOST_LINES = 60;

    private static final Checks is = new Checks();

    public static void main(String[] args) throws IOException {
        methods();
        fields();
        classes();
        source();
        is.end();
    }

    private static void methods() {
        Set<String> face = new TreeSet<>();
        Set<String> names = new HashSet<>();
        for (Method m : PetalWheels.class.getDeclaredMethods()) {
            if (Modifier.isPublic(m.getModifiers())) {
                face.add(told(m));
                names.add(m.getName());
                is.holds(m.getName() + " is an object's own", !Modifier.isStatic(m.getModifiers()));
            }
        }
        is.holds("the methods of the document: " + face, face.equals(new TreeSet<>(Arrays.asList(METHODS))));
        for (Method m : PetalWheels.class.getDeclaredMethods()) {
            if (!Modifier.isPublic(m.getModifiers())) {
                is.holds(m.getName() + " is private", Modifier.isPrivate(m.getModifiers()));
                is.holds(m.getName() + " has a name of its own", !names.contains(m.getName()));
            }
            is.holds(m.getName() + " takes seven at most", m.getParameterCount() <= 7);
        }
        Constructor<?>[] made = PetalWheels.class.getDeclaredConstructors();
        is.due("constructors", made.length, 1);
        is.due("what it takes", made[0].getParameterCount(), 0);
        is.holds("it is public", Modifier.isPublic(made[0].getModifiers()));
    }

    private static String told(Method m) {
        StringBuilder told = new StringBuilder(m.getReturnType() + " " + m.getName() + "(");
        for (Class<?> c : m.getParameterTypes()) {
            told.append(told.charAt(told.length() - 1) == '(' ? "" : ",").append(c);
        }
        return told.append(")").toString();
    }

    private static void fields() {
        Set<String> open = new TreeSet<>();
        int own = 0;
        for (Field f : PetalWheels.class.getDeclaredFields()) {
            int how = f.getModifiers();
            if (Modifier.isStatic(how)) {
                is.holds(f.getName() + " is final", Modifier.isFinal(how));
            } else {
                own++;
            }
            if (Modifier.isPublic(how)) {
                open.add(f.getName());
                is.holds(f.getName() + " is an int", f.getType() == int.class && Modifier.isStatic(how));
            } else {
                is.holds(f.getName() + " is private", Modifier.isPrivate(how));
            }
        }
        is.holds("the constants of the document", open.equals(new TreeSet<>(Arrays.asList(CONSTANTS))));
        is.holds("some twenty fields", own <= 20);
    }

    private static void classes() {
        is.holds("public", Modifier.isPublic(PetalWheels.class.getModifiers()));
        is.holds("final", Modifier.isFinal(PetalWheels.class.getModifiers()));
        Class<?>[] inside = PetalWheels.class.getDeclaredClasses();
        is.holds("some twelve classes", inside.length <= 11);
        for (Class<?> c : inside) {
            is.holds(c + " is static", Modifier.isStatic(c.getModifiers()));
            is.holds(c + " is not public", !Modifier.isPublic(c.getModifiers()));
            is.holds(c + " has some twenty fields", c.getDeclaredFields().length <= 20);
            for (Constructor<?> made : c.getDeclaredConstructors()) {
                is.holds(made + " takes seven at most", made.getParameterCount() <= 7);
            }
            for (Method m : c.getDeclaredMethods()) {
                is.holds(m + " takes seven at most", m.getParameterCount() <= 7);
                is.holds(m + " has a name of its own", !Arrays.toString(METHODS).contains(" " + m.getName() + "("));
            }
        }
    }

    private static void source() throws IOException {
        String file = Files.readString(Path.of("src/main/java/PetalWheels.java"));
        for (int i = 0; i < file.length(); i++) {
            if (file.charAt(i) > 127) {
                is.due("sign " + i + " of the file", file.charAt(i), '?');
            }
        }
        String code = file.replaceAll("(?s)/\\*.*?\\*/", "").replaceAll("//[^\n]*", "");
        for (String word : WORDS) {
            is.holds("no " + word, !Pattern.compile("\\b" + word + "\\b").matcher(code).find());
        }
        is.holds("no lambda, no method reference", !code.contains("->") && !code.contains("::"));
        is.holds("no static block", !Pattern.compile("\\bstatic\\s*\\{").matcher(code).find());
        Matcher used = Pattern.compile("\\b(Math|Arrays|Integer|Long|String|StringBuilder|List|ArrayList)\\.\\w+").matcher(code);
        while (used.find()) {
            is.holds(used.group() + " is in the library", LIBRARY.contains(used.group()));
        }
        shortMethods(file);
        is.holds("no library but Arrays", code.split("import ").length == 2 && code.contains("import java.util.Arrays;"));
    }

    /** A method begins with its head, which ends in ") {", and ends with a brace as far in as that head. */
    private static void shortMethods(String file) {
        String[] lines = file.split("\n");
        Pattern head = Pattern.compile("( {4}| {8})[A-Za-z].*\\) \\{");
        int methods = 0;
        for (int i = 0; i < lines.length; i++) {
            Matcher m = head.matcher(lines[i]);
            if (m.matches() && !lines[i].trim().matches("(if|for|while|switch|do)\\b.*")) {
                int end = i;
                while (end < lines.length && !lines[end].equals(m.group(1) + "}")) {
                    end++;
                }
                methods++;
                is.holds(lines[i].trim() + " has " + (end - i + 1) + " lines", end - i + 1 <= MOST_LINES);
            }
        }
        is.holds("methods were found: " + methods, methods >= METHODS.length + 1);
    }
}
