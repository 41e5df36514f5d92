import java.io.IOException;
import java.lang.reflect.Field;
import java.lang.reflect.Method;
import java.lang.reflect.Modifier;
import java.nio.charset.StandardCharsets;
import java.nio.file.Files;
import java.nio.file.Path;
import java.util.ArrayList;
import java.util.List;
import java.util.Map;
import java.util.TreeMap;
import java.util.TreeSet;
import java.util.regex.Matcher;
import java.util.regex.Pattern;

/** The public face, constant for constant and method for method, and the rules of LANGUAGE.md that can be read off. */
final class FaceTest {
    private static final String[] CONSTANTS = {
        "BAD_TEXT=-3", "BAD_VALUE=-2", "DRY=2", "FALL=3", "NONE=-6", "NOT_POSSIBLE=-5", "NO_SUCH=-1", "PLAY=4",
        "THIEF=6", "TOO_MANY=-4", "TUNE=5", "WARN=0", "WET=1"};
    private static final String[] METHODS = {
        "bestPlace(int,int)", "carryOut()", "count(int)", "cover(int)", "coveredIn(int)", "fault()", "keeper(int)",
        "of(int,int)", "ofKeeper(int,int)", "pass(int)", "piano(int,int)", "put(long)", "rain(int)", "rainIn()",
        "restore(int)", "save(int)", "set(int,int)", "take(int)", "undo()", "why(int)", "willBeWet(int)", "wipe()",
        "worst()"};
    private static final String[] FORBIDDEN = {
        "\\bthrow\\b", "\\btry\\b", "\\bcatch\\b", "\\bsynchronized\\b", "\\bassert\\b", "\\bimport\\b",
        "\\bpackage\\b",
        "->", "::", "\\bstatic\\s*\\{", "Exact\\(", "\\bObject\\b", "\\bequals\\b", "\\bhashCode\\b", "\\btoString\\b",
        "\\binstanceof\\b", "\\bRandom\\b", "\\bSystem\\.(?!arraycopy\\b)", "\\bnew \\w+\\[[^\\]A-Z]"};

    public static void main(String[] args) throws IOException {
        constants();
        methods();
        namesOfPrivateMethods();
        sizes();
        Path source = Path.of(args.length > 0 ? args[0] : "src/main/java/PianoCovers.java");
        source(source);
        faceOfTheDocument(Path.of(args.length > 1 ? args[1] : "../shared/DOC.md"), withoutComments(source));
        Due.finish("FaceTest");
    }

    private static void constants() {
        TreeSet<String> seen = new TreeSet<>();
        for (Field field : PianoCovers.class.getDeclaredFields()) {
            if (Modifier.isPrivate(field.getModifiers())) {
                continue;
            }
            Due.due(field.getName() + " is public static final int", field.getModifiers(),
                Modifier.PUBLIC | Modifier.STATIC | Modifier.FINAL);
            Due.same(field.getName(), field.getType().getName(), "int");
            try {
                seen.add(field.getName() + "=" + field.getInt(null));
            } catch (IllegalAccessException e) {
                seen.add(field.getName() + " can't be read");
            }
        }
        Due.same("constants", seen.toString(), List.of(CONSTANTS).toString());
    }

    private static void methods() {
        TreeSet<String> seen = new TreeSet<>();
        for (Method method : PianoCovers.class.getDeclaredMethods()) {
            if (Modifier.isPrivate(method.getModifiers())) {
                continue;
            }
            Due.due(method.getName() + " is public", method.getModifiers(), Modifier.PUBLIC);
            Due.same(method.getName(), method.getReturnType().getName(), "int");
            List<String> types = new ArrayList<>();
            for (Class<?> type : method.getParameterTypes()) {
                types.add(type.getName());
            }
            seen.add(method.getName() + "(" + String.join(",", types) + ")");
        }
        Due.same("methods", seen.toString(), List.of(METHODS).toString());
        Due.due("constructors", PianoCovers.class.getDeclaredConstructors().length, 1);
        Due.due("parameters of the constructor", PianoCovers.class.getConstructors()[0].getParameterCount(), 0);
        Due.due("the class is public and final", PianoCovers.class.getModifiers(), Modifier.PUBLIC | Modifier.FINAL);
    }

    private static TreeSet<String> namesOfTheFace() {
        TreeSet<String> names = new TreeSet<>();
        for (String method : METHODS) {
            names.add(method.substring(0, method.indexOf('(')));
        }
        return names;
    }

    private static void namesOfPrivateMethods() {
        TreeSet<String> names = namesOfTheFace();
        List<Class<?>> classes = new ArrayList<>(List.of(PianoCovers.class.getDeclaredClasses()));
        classes.add(PianoCovers.class);
        for (Class<?> type : classes) {
            for (Method method : type.getDeclaredMethods()) {
                boolean own = Modifier.isPublic(method.getModifiers()) && type == PianoCovers.class;
                Due.due(type.getName() + "." + method.getName() + " bears a public name",
                    !own && names.contains(method.getName()) ? 1 : 0, 0);
                Due.due(method.getName() + " has at most seven parameters", method.getParameterCount() <= 7 ? 1 : 0, 1);
            }
        }
    }

    private static void sizes() {
        Class<?>[] inside = PianoCovers.class.getDeclaredClasses();
        Due.due("at most twelve classes", inside.length < 12 ? 1 : 0, 1);
        for (Class<?> type : inside) {
            Due.due(type.getName() + " is static", Modifier.isStatic(type.getModifiers()) ? 1 : 0, 1);
            Due.due(type.getName() + " is not public", Modifier.isPublic(type.getModifiers()) ? 1 : 0, 0);
            fields(type);
        }
        fields(PianoCovers.class);
    }

    private static void fields(Class<?> type) {
        int own = 0;
        for (Field field : type.getDeclaredFields()) {
            boolean isStatic = Modifier.isStatic(field.getModifiers());
            own += isStatic ? 0 : 1;
            boolean lasting = !isStatic || Modifier.isFinal(field.getModifiers());
            Due.due(field.getName() + " is final if it is static", lasting ? 1 : 0, 1);
        }
        Due.due(type.getName() + " has at most twenty fields", own <= 20 ? 1 : 0, 1);
    }

    private static String withoutComments(Path path) throws IOException {
        String text = Files.readString(path, StandardCharsets.UTF_8);
        return text.replaceAll("(?s)/\\*.*?\\*/", " ").replaceAll("//[^\n]*", " ");
    }

    /** Each line of the document's code block stands in the class, and nothing else there is public. */
    private static void faceOfTheDocument(Path document, String code) throws IOException {
        String text = Files.readString(document, StandardCharsets.UTF_8);
        int from = text.indexOf("```java\n") + "```java\n".length();
        String[] lines = text.substring(from, text.indexOf("\n```", from)).split("\n");
        int told = 0;
        for (String line : lines) {
            told += line.contains("public ") ? 1 : 0;
            String due = line.endsWith(");") ? line.replaceFirst(";$", " {") : line;
            Due.due("\"" + line.trim() + "\" stands in the class", count(code, "\n" + due + "\n"), 1);
        }
        Due.due("lines of the face", told, 27);
        Due.due("what is public", count(code, "public "), told);
        Due.due("what is protected", count(code, "protected "), 0);
    }

    private static int count(String text, String part) {
        int found = 0;
        for (int at = ("\n" + text).indexOf(part); at >= 0; at = ("\n" + text).indexOf(part, at + 1)) {
            found++;
        }
        return found;
    }

    private static void source(Path path) throws IOException {
        String text = Files.readString(path, StandardCharsets.UTF_8);
        String code = withoutComments(path);
        for (String forbidden : FORBIDDEN) {
            Matcher matcher = Pattern.compile(forbidden).matcher(code);
            Due.same("forbidden " + forbidden, matcher.find() ? matcher.group() : "", "");
        }
        for (int i = 0; i < text.length(); i++) {
            if (text.charAt(i) > 126) {
                Due.due("a sign above 126 at " + i, text.charAt(i), 0);
            }
        }
        methodLengths(code);
        library(code);
        Map<String, String> bodies = bodies(code);
        depthOfCalls(bodies);
        noObjectsOfCalls(bodies);
    }

    private static void methodLengths(String code) {
        int begin = 0;
        int number = 0;
        for (String line : code.split("\n")) {
            number++;
            if (line.matches(" {4,8}(?:public|private).*\\) \\{")) {
                begin = number;
            } else if (line.matches(" {4,8}\\}") && begin > 0) {
                Due.due("the method at line " + begin + " is short", number - begin < 60 ? 1 : 0, 1);
                begin = 0;
            }
        }
    }

    /** Rule 4: what of the library the class calls. */
    private static void library(String code) {
        TreeSet<String> called = new TreeSet<>();
        Matcher matcher = Pattern.compile("\\b[A-Z]\\w*\\.\\w+").matcher(code);
        while (matcher.find()) {
            called.add(matcher.group());
        }
        Due.same("library", called.toString(), "[Integer.bitCount, Math.max, Math.min, System.arraycopy]");
        Due.due("texts", count(code, "\""), 0);
    }

    private static Map<String, String> bodies(String code) {
        Map<String, String> bodies = new TreeMap<>();
        String face = "(?m)^ {4,8}(?:public|private) (?:static )?\\w+ (\\w+)\\([^)]*\\) \\{$";
        Matcher header = Pattern.compile(face).matcher(code);
        while (header.find()) {
            String indent = header.group().replaceFirst("\\S.*", "");
            int end = code.indexOf("\n" + indent + "}", header.end());
            String second = bodies.put(header.group(1), code.substring(header.end(), end));
            Due.due("that there is one " + header.group(1), second == null ? 1 : 0, 1);
        }
        return bodies;
    }

    /** All calls of a run live in one room, so that only constructors make objects and rows. */
    private static void noObjectsOfCalls(Map<String, String> bodies) {
        for (Map.Entry<String, String> method : bodies.entrySet()) {
            Due.due(method.getKey() + " makes objects", count(method.getValue(), "new "), 0);
        }
    }

    /** Rule 11: calls that are no recursion go at most eight deep. There is none here, and each name is used once. */
    private static void depthOfCalls(Map<String, String> bodies) {
        Due.due("all methods of the face were found", bodies.keySet().containsAll(namesOfTheFace()) ? 1 : 0, 1);
        int deepest = 0;
        for (String name : bodies.keySet()) {
            deepest = Math.max(deepest, depth(name, bodies, 1));
        }
        Due.due("calls go " + deepest + " deep", deepest <= 8 ? 1 : 0, 1);
    }

    /** How deep calls go from a method on; a recursion goes deeper than anything else. */
    private static int depth(String name, Map<String, String> bodies, int above) {
        int deepest = above;
        Matcher call = Pattern.compile("\\b(\\w+)\\(").matcher(bodies.get(name));
        while (call.find() && above < 30) {
            if (bodies.containsKey(call.group(1))) {
                deepest = Math.max(deepest, depth(call.group(1), bodies, above + 1));
            }
        }
        return deepest;
    }
}
