import java.io.IOException;
import java.lang.reflect.Constructor;
import java.lang.reflect.Field;
import java.lang.reflect.Method;
import java.lang.reflect.Modifier;
import java.nio.file.Files;
import java.nio.file.Path;
import java.util.Arrays;
import java.util.List;
import java.util.Map;
import java.util.TreeMap;
import java.util.TreeSet;
import java.util.regex.Matcher;
import java.util.regex.Pattern;

/** The face of the document, and those rules of LANGUAGE.md that can be seen by a look at the code. */
public final class LanguageTest {
    private static final String SOURCE = "src/main/java/ColdHouse.java";
    private static final List<String> FACE = List.of("write(int)", "wipe()", "fault()", "lay()", "tell(int,int)",
        "lock(int,int)", "dip()", "tick(int)", "undo()", "machine(int,int)", "power(int,int,int)",
        "share(int,int,int)", "best(int,int)", "now(int)", "ahead(int,int)", "count(int)");
    private static final List<String> RULED_OUT = List.of("throw", "throws", "try", "catch", "synchronized", "assert",
        "package", "System.out", "System.in", "System.nanoTime", "System.currentTimeMillis", "Random", "Thread",
        "hashCode", "toString", "Object", "Exact");
    private static final List<String> KEYWORDS = List.of("if", "for", "while", "switch", "return");
    private static final int CALLS_DEEP = 8;

    public static void main(String[] args) throws IOException {
        face();
        innerClasses();
        source();
        Due.end();
    }

    private static String signature(Method method) {
        StringBuilder text = new StringBuilder(method.getName()).append('(');
        for (Class<?> type : method.getParameterTypes()) {
            text.append(text.charAt(text.length() - 1) == '(' ? "" : ",").append(type.getName());
        }
        return text.append(')').toString();
    }

    private static void face() {
        Due.isTrue("public and final", Modifier.isPublic(ColdHouse.class.getModifiers()) && Modifier.isFinal(ColdHouse.class.getModifiers()));
        TreeSet<String> seen = new TreeSet<>();
        TreeSet<String> names = new TreeSet<>();
        for (Method method : ColdHouse.class.getDeclaredMethods()) {
            if (Modifier.isPublic(method.getModifiers())) {
                seen.add(signature(method));
                Due.isTrue(method + " answers an int", method.getReturnType() == int.class);
                Due.isTrue(method + " is not static", !Modifier.isStatic(method.getModifiers()));
                names.add(method.getName());
            } else {
                Due.isTrue(method + " is private", Modifier.isPrivate(method.getModifiers()));
            }
        }
        Due.isTrue("the face is " + FACE + ", seen is " + seen, seen.equals(new TreeSet<>(FACE)));
        for (Method method : ColdHouse.class.getDeclaredMethods()) {
            Due.isTrue(method + " has a name of its own", Modifier.isPublic(method.getModifiers()) || !names.contains(method.getName()));
        }
        Constructor<?>[] constructors = ColdHouse.class.getDeclaredConstructors();
        Due.is("constructors", constructors.length, 1);
        Due.isTrue("a public one without parameters", Modifier.isPublic(constructors[0].getModifiers()) && constructors[0].getParameterCount() == 0);
        TreeSet<String> constants = new TreeSet<>();
        for (Field field : ColdHouse.class.getDeclaredFields()) {
            if (!Modifier.isPrivate(field.getModifiers())) {
                constants.add(field.getName());
                Due.isTrue(field + " is a public constant", Modifier.isPublic(field.getModifiers()) && field.getType() == int.class);
            }
            Due.isTrue(field + " is final", Modifier.isFinal(field.getModifiers()));
        }
        Due.isTrue("the constants: " + constants, constants.equals(new TreeSet<>(List.of("BAD", "NO", "FULL", "NONE"))));
    }

    private static void innerClasses() {
        Class<?>[] classes = ColdHouse.class.getDeclaredClasses();
        Due.isTrue("some twelve classes at most", classes.length <= 12);
        for (Class<?> inner : classes) {
            Due.isTrue(inner + " is static", Modifier.isStatic(inner.getModifiers()));
            Due.isTrue(inner + " is not public", !Modifier.isPublic(inner.getModifiers()) && !Modifier.isProtected(inner.getModifiers()));
            long own = Arrays.stream(inner.getDeclaredFields()).filter(f -> !Modifier.isStatic(f.getModifiers())).count();
            Due.isTrue(inner + " has some twenty fields at most", own <= 20);
            for (Method method : inner.getDeclaredMethods()) {
                Due.isTrue(method + " takes seven at most", method.getParameterCount() <= 7);
                Due.isTrue(method + " bears no name of the face", FACE.stream().noneMatch(f -> f.startsWith(method.getName() + "(")));
            }
            for (Field field : inner.getDeclaredFields()) {
                Due.isTrue(field + " is final or not static", !Modifier.isStatic(field.getModifiers()) || Modifier.isFinal(field.getModifiers()));
            }
        }
    }

    private static void source() throws IOException {
        String whole = Files.readString(Path.of(SOURCE));
        String code = whole.replaceAll("(?s)/\\*.*?\\*/", "").replaceAll("//[^\n]*", "");
        for (String word : RULED_OUT) {
            boolean found = Pattern.compile("(?<![A-Za-z])" + Pattern.quote(word) + "(?![a-z])").matcher(code).find();
            Due.isTrue("no " + word, !found && !(word.equals("Exact") && code.contains("Exact(")));
        }
        Due.isTrue("no lambda", !code.contains("->"));
        Due.isTrue("no method reference", !code.contains("::"));
        Due.isTrue("no joining of texts by +", !code.contains("\" +") && !code.contains("+ \""));
        Matcher imports = Pattern.compile("(?m)^import (.*);").matcher(code);
        while (imports.find()) {
            Due.isTrue("import " + imports.group(1), List.of("java.util.Arrays", "java.util.ArrayList", "java.util.List").contains(imports.group(1)));
        }
        Due.isTrue("signs 1 to 127", whole.chars().allMatch(c -> c >= 1 && c <= 127));
        methodLengths(whole.split("\n"));
        callDepth(code);
    }

    /** Each method by its name alone: those of one name in several classes count as one that does what all do. */
    private static void callDepth(String code) {
        Map<String, String> bodies = new TreeMap<>();
        Matcher heads = Pattern.compile("(?m)^ {4}( {4})?[a-zA-Z][\\w\\[\\] ]*?(\\w+)\\([^()]*\\) \\{\n").matcher(code);
        while (heads.find()) {
            String indent = heads.group(1) == null ? "    " : "        ";
            int end = code.indexOf("\n" + indent + "}\n", heads.end() - 1);
            bodies.merge(heads.group(2), code.substring(heads.end(), end + 1), String::concat);
        }
        Due.isTrue("bodies are seen: " + bodies.size(), bodies.size() > 60);
        for (String name : bodies.keySet()) {
            int depth = depthOf(name, bodies, CALLS_DEEP + 1);
            Due.isTrue("eight calls deep at most, here " + name + " " + depth, depth <= CALLS_DEEP);
        }
    }

    /** How deep the calls go, this one counted; no more than the most that is asked for. */
    private static int depthOf(String name, Map<String, String> bodies, int most) {
        int below = 0;
        Matcher calls = Pattern.compile("(\\w+)\\(").matcher(bodies.getOrDefault(name, ""));
        while (most > 1 && calls.find()) {
            boolean isCall = !KEYWORDS.contains(calls.group(1));
            below = Math.max(below, isCall ? depthOf(calls.group(1), bodies, most - 1) : 0);
        }
        return 1 + below;
    }

    private static void methodLengths(String[] lines) {
        int length = 0;
        int methods = 0;
        for (String line : lines) {
            boolean head = line.matches(" {4,8}(?!if|for|while|switch)[A-Za-z][^=]*\\) \\{");
            methods += head ? 1 : 0;
            length = head ? 1 : length + 1;
            if (line.matches(" {4}( {4})?\\}")) {
                Due.isTrue("sixty lines at most, here " + length, length <= 60);
            }
        }
        Due.isTrue("methods are seen: " + methods, methods > 60);
    }
}
