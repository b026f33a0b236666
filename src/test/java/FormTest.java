import java.lang.reflect.Constructor;
import java.lang.reflect.Field;
import java.lang.reflect.Method;
import java.lang.reflect.Modifier;
import java.nio.file.Files;
import java.nio.file.Path;
import java.util.ArrayList;
import java.util.List;
import java.util.Map;
import java.util.Set;
import java.util.TreeSet;
import java.util.regex.Matcher;
import java.util.regex.Pattern;

/** The public face, and of LANGUAGE.md what a machine can see. Runs in the project's folder. */
public final class FormTest {
    private static final String[] FACE = {
        "int letters(long)", "int blank()", "int fault(int)", "int lamp()", "int measure()", "int law()",
        "int pigment(int,int)", "int picture(int,int,int,int,int,int)", "int colour(int,int,int,int)",
        "int as(int,int)", "int about(int,int)", "int value(int,int)", "int mountain(int)", "int near(int,int)",
        "int paint(int,int,int)", "int stat(int,int)", "long odds(int,int,int)", "long paid(int,int)",
        "int hangs(int,int)", "int next(int,int)", "int ice(int,int,int)", "int classes(int,int,int)",
        "int back(int,int,int)", "int dates(int,int,int)", "int wrong(int)", "int image()", "int restore()",
        "int count(int)", "long digest()"};
    private static final String[] BARRED = {
        "throw", "throws", "try", "catch", "finally", "synchronized", "assert", "var", "new Object", "->", "::", "@",
        "volatile", "transient", "native", "double", "float", "hashCode", "toString", "equals", "Object",
        "Exception", "Error", "Random", "Thread", "Exact", "java.io", "java.time", "currentTimeMillis", "nanoTime"};
    private static final Map<String, Set<String>> LIBRARY = Map.of(
        "Arrays", Set.of("fill", "copyOf", "copyOfRange"),
        "System", Set.of("arraycopy"),
        "Math", Set.of("max", "min", "abs", "floorDiv", "floorMod"),
        "Integer", Set.of("bitCount", "compare", "max", "min", "abs", "signum"),
        "Long", Set.of("bitCount", "compare", "max", "min", "abs", "signum"));

    public static void main(String[] args) throws Exception {
        face();
        for (Class<?> inside : allClasses()) {
            members(inside);
        }
        Due.due("at most twelve classes", Math.max(12, allClasses().size()), 12);
        String code = bare(Files.readString(Path.of("src/main/java/RedSkies.java")));
        words(code);
        methodLengths(code);
        Due.finish();
    }

    private static void isTrue(String what, boolean holds) {
        Due.due(what, holds ? 1 : 0, 1);
    }

    private static List<Class<?>> allClasses() {
        List<Class<?>> all = new ArrayList<>(List.of(RedSkies.class.getDeclaredClasses()));
        for (int i = 0; i < all.size(); i++) {
            all.addAll(List.of(all.get(i).getDeclaredClasses()));
        }
        all.add(RedSkies.class);
        return all;
    }

    private static String toldOf(Method method) {
        List<String> types = new ArrayList<>();
        for (Class<?> type : method.getParameterTypes()) {
            types.add(type.getSimpleName());
        }
        return method.getReturnType() + " " + method.getName() + "(" + String.join(",", types) + ")";
    }

    private static void face() throws Exception {
        isTrue("RedSkies is public and final", RedSkies.class.getModifiers() == (Modifier.PUBLIC | Modifier.FINAL));
        isTrue("RedSkies has no package", RedSkies.class.getPackageName().isEmpty());
        isTrue("RedSkies extends nothing", RedSkies.class.getSuperclass() == Object.class);
        isTrue("RedSkies implements nothing", RedSkies.class.getInterfaces().length == 0);
        Constructor<?>[] constructors = RedSkies.class.getDeclaredConstructors();
        isTrue("one constructor", constructors.length == 1 && constructors[0].getParameterCount() == 0);
        isTrue("it is public", Modifier.isPublic(constructors[0].getModifiers()));
        Set<String> due = new TreeSet<>(List.of(FACE));
        Set<String> found = new TreeSet<>();
        for (Method method : RedSkies.class.getDeclaredMethods()) {
            if (!Modifier.isPrivate(method.getModifiers())) {
                isTrue(method + " is public, of the object", method.getModifiers() == Modifier.PUBLIC);
                found.add(toldOf(method));
            }
        }
        isTrue("the methods are " + found, found.equals(due));
        Set<String> constants = new TreeSet<>();
        for (Field field : RedSkies.class.getDeclaredFields()) {
            if (!Modifier.isPrivate(field.getModifiers())) {
                constants.add(field.getName());
                isTrue(field + " is a public constant", field.getType() == int.class
                        && field.getModifiers() == (Modifier.PUBLIC | Modifier.STATIC | Modifier.FINAL));
            }
        }
        isTrue("the constants", constants.equals(Set.of("NONE", "UNKNOWN", "OUTSIDE", "STATE", "FULL")));
    }

    private static void members(Class<?> one) {
        if (one != RedSkies.class) {
            int modifiers = one.getModifiers();
            isTrue(one + " is static", Modifier.isStatic(modifiers));
            isTrue(one + " is not public", !Modifier.isPublic(modifiers) && !Modifier.isProtected(modifiers));
        }
        Set<String> names = new TreeSet<>();
        for (String told : FACE) {
            names.add(told.substring(told.indexOf(' ') + 1, told.indexOf('(')));
        }
        int fields = 0;
        for (Field field : one.getDeclaredFields()) {
            if (Modifier.isStatic(field.getModifiers())) {
                isTrue(field + " is a constant", Modifier.isFinal(field.getModifiers()));
            } else {
                fields++;
            }
        }
        isTrue(one + " has some twenty fields", fields <= 20);
        for (Method method : one.getDeclaredMethods()) {
            isTrue(method + " has at most seven parameters", method.getParameterCount() <= 7);
            isTrue(method + " is no made-up one", !method.isSynthetic());
            boolean ofTheFace = one == RedSkies.class && Modifier.isPublic(method.getModifiers());
            isTrue(method + " has a name of its own", ofTheFace || !names.contains(method.getName()));
        }
    }

    /** The code without comments and without what stands between quotes. */
    private static String bare(String source) {
        return Pattern.compile("/\\*.*?\\*/", Pattern.DOTALL).matcher(source).replaceAll(" ")
                .replaceAll("//[^\n]*", " ").replaceAll("'(\\\\.|[^'\\\\])'", "' '").replaceAll("\"[^\"\n]*\"", "\"\"");
    }

    private static void words(String code) {
        for (String word : BARRED) {
            String edge = Character.isLetter(word.charAt(0)) ? "\\b" : "";
            isTrue("no " + word, !Pattern.compile(edge + Pattern.quote(word) + edge).matcher(code).find());
        }
        Matcher imports = Pattern.compile("import ([^;]*);").matcher(code);
        while (imports.find()) {
            isTrue("import " + imports.group(1), Set.of("java.util.Arrays", "java.util.ArrayList",
                    "java.util.List").contains(imports.group(1)));
        }
        Matcher calls = Pattern.compile("\\b(Arrays|System|Math|Integer|Long)\\.(\\w+)").matcher(code);
        while (calls.find()) {
            isTrue(calls.group(), LIBRARY.get(calls.group(1)).contains(calls.group(2)));
        }
        isTrue("no loop of while", !Pattern.compile("\\bwhile\\b").matcher(code).find());
    }

    private static void methodLengths(String code) {
        Matcher starts = Pattern.compile("\n {4,8}(?! )[\\w\\[\\] ]+\\([^;{]*\\) \\{").matcher(code);
        int methods = 0;
        while (starts.find()) {
            int depth = 1;
            int at = starts.end();
            for (; at < code.length() && depth > 0; at++) {
                depth += code.charAt(at) == '{' ? 1 : code.charAt(at) == '}' ? -1 : 0;
            }
            long lines = code.substring(starts.end(), at).chars().filter(c -> c == '\n').count();
            isTrue(starts.group().trim() + " has at most sixty lines: " + lines, lines <= 60);
            methods++;
        }
        isTrue("the methods are found", methods >= FACE.length);
    }
}
