import java.io.IOException;
import java.lang.reflect.Constructor;
import java.lang.reflect.Field;
import java.lang.reflect.Method;
import java.lang.reflect.Modifier;
import java.nio.file.Files;
import java.nio.file.Path;
import java.util.Arrays;
import java.util.Set;
import java.util.TreeSet;
import java.util.regex.Matcher;
import java.util.regex.Pattern;

/** The public face of the document, and those rules of LANGUAGE.md that can be seen from outside. */
public final class FaceTest {
    private static final String[] METHODS = {"int letter(int)", "int blank()", "int fault()", "int world()",
        "int go(int)", "int fate(int)", "int act(int)", "int undo()", "int about(int)", "int one(int,int)",
        "int plan(int,int)", "int foil(int,int,int)", "int deed(int,int)", "int step(int,int)", "int story(int)",
        "int together(int)", "int ways(int)", "int count(int)", "long digest()"};
    private static final Set<String> CONSTANTS = Set.of("NONE", "UNKNOWN", "OUTSIDE", "STATE", "FULL");
    private static final int VISIBLE = Modifier.PUBLIC | Modifier.PROTECTED;

    public static void main(String[] args) throws IOException {
        face();
        constants();
        nestedClasses();
        source(Files.readString(Path.of("src/main/java/WantPlots.java")));
        Check.end("FaceTest");
    }

    private static void isTrue(String rule, boolean so) {
        Check.due(rule, so ? 1 : 0, 1);
    }

    private static String signature(Method method) {
        StringBuilder types = new StringBuilder();
        for (Class<?> type : method.getParameterTypes()) {
            types.append(types.length() > 0 ? "," : "").append(type.getName());
        }
        return method.getReturnType() + " " + method.getName() + "(" + types + ")";
    }

    private static void face() {
        isTrue("public and final", (WantPlots.class.getModifiers() & (Modifier.PUBLIC | Modifier.FINAL)) == 17);
        TreeSet<String> open = new TreeSet<>();
        TreeSet<String> names = new TreeSet<>();
        for (Method method : WantPlots.class.getDeclaredMethods()) {
            if (Modifier.isPublic(method.getModifiers())) {
                open.add(signature(method));
                names.add(method.getName());
                isTrue(method + " is no static method", !Modifier.isStatic(method.getModifiers()));
            } else {
                isTrue(method + " is private", Modifier.isPrivate(method.getModifiers()));
            }
        }
        isTrue("the methods " + open, open.equals(new TreeSet<>(Arrays.asList(METHODS))));
        for (Method method : WantPlots.class.getDeclaredMethods()) {
            isTrue("the name of " + method,
                    Modifier.isPublic(method.getModifiers()) || !names.contains(method.getName()));
        }
        Constructor<?>[] made = WantPlots.class.getDeclaredConstructors();
        isTrue("one public constructor without arguments", made.length == 1
                && Modifier.isPublic(made[0].getModifiers()) && made[0].getParameterCount() == 0);
    }

    private static void constants() {
        Check.due("NONE", WantPlots.NONE, -1);
        Check.due("UNKNOWN", WantPlots.UNKNOWN, -101);
        Check.due("OUTSIDE", WantPlots.OUTSIDE, -102);
        Check.due("STATE", WantPlots.STATE, -103);
        Check.due("FULL", WantPlots.FULL, -104);
        for (Field field : WantPlots.class.getDeclaredFields()) {
            int modifiers = field.getModifiers();
            if (CONSTANTS.contains(field.getName())) {
                isTrue(field + " is a public constant", (modifiers & 25) == 25 && field.getType() == int.class);
            } else {
                isTrue(field + " is private", Modifier.isPrivate(modifiers));
            }
            isTrue(field + " is final if it is static", !Modifier.isStatic(modifiers) || Modifier.isFinal(modifiers));
        }
    }

    private static void nestedClasses() {
        Class<?>[] inside = WantPlots.class.getDeclaredClasses();
        isTrue("at most twelve classes", inside.length <= 11);
        for (Class<?> one : inside) {
            isTrue(one + " is static", Modifier.isStatic(one.getModifiers()));
            isTrue(one + " is not open", (one.getModifiers() & VISIBLE) == 0);
            int fields = 0;
            for (Field field : one.getDeclaredFields()) {
                fields += Modifier.isStatic(field.getModifiers()) ? 0 : 1;
                isTrue(field + " is not open", (field.getModifiers() & VISIBLE) == 0);
            }
            isTrue(one + " has at most twenty fields", fields <= 20);
            for (Method method : one.getDeclaredMethods()) {
                isTrue(method + " has at most seven parameters", method.getParameterCount() <= 7);
                isTrue(method + " has no name of the face",
                        Arrays.stream(METHODS).noneMatch(m -> m.contains(" " + method.getName() + "(")));
            }
        }
    }

    private static void source(String text) {
        String code = text.replaceAll("(?s)/\\*.*?\\*/", "").replaceAll("//[^\n]*", "");
        for (String word : new String[] {"throw", "throws", "try", "catch", "finally", "synchronized", "assert", "import",
            "package", "System", "Object", "Thread", "hashCode", "toString", "Exact"}) {
            isTrue("no " + word, !Pattern.compile("\\b" + word + "\\b").matcher(code).find());
        }
        isTrue("no lambda", !code.contains("->"));
        isTrue("no method reference", !code.contains("::"));
        isTrue("characters 1 to 127 alone", text.chars().allMatch(c -> c > 0 && c < 128));
        // What a call makes would be counted: all rows are made with the object.
        Matcher made = Pattern.compile("new (\\w+)([^;]*;)").matcher(code);
        while (made.find()) {
            isTrue("made with the object: " + made.group(), made.group(1).equals("int")
                    && made.group(2).matches("\\[(MAX_\\w+|STATES)\\];") || made.group(2).equals("();"));
        }
        shortMethods(code);
    }

    private static void shortMethods(String code) {
        String[] lines = code.split("\n");
        for (int i = 0; i < lines.length; i++) {
            if (lines[i].matches("( {4}| {8})\\S.*\\) \\{")) {
                String end = lines[i].replaceAll("\\S.*", "}");
                int length = 1;
                while (i + length < lines.length && !lines[i + length].equals(end)) {
                    length++;
                }
                isTrue("a short method: " + lines[i].trim() + " " + length, length <= 60);
            }
        }
    }
}
