import java.io.IOException;
import java.lang.reflect.Constructor;
import java.lang.reflect.Executable;
import java.lang.reflect.Field;
import java.lang.reflect.Member;
import java.lang.reflect.Method;
import java.lang.reflect.Modifier;
import java.nio.file.Files;
import java.nio.file.Path;
import java.util.Arrays;
import java.util.HashSet;
import java.util.Set;
import java.util.TreeSet;
import java.util.regex.Matcher;
import java.util.regex.Pattern;

/** The public face as the document has it, and those rules of the language that can be read off the code. */
public final class FaceTest {
    private static final String[] FACE = {
        "work int int int int int int", "version int int int int int int",
        "print int boolean int int int int int", "retitle int int int", "cut int int int int", "told int int",
        "then int int int", "turned int", "holding int int int int int int", "unhold", "owner int int", "may int int",
        "twice int", "gap int int", "mention int int int int int int boolean int int", "score int int", "rivals int",
        "joined int", "sure int", "sum int", "mentions int", "counted int int int", "clue int int int",
        "use int boolean", "made int int", "quarrel", "asides", "aside int", "kin int int", "type long int", "rules",
        "rule int int", "vote int int int int boolean", "votes int int", "state int int int", "unsure int int",
        "leaning int", "edition", "number int", "count int", "sheet int int int", "drop int",
        "item int int int int", "holdings int int int int"};
    private static final String[] CONSTANTS = {"BAD", "NOT", "FULL", "NONE", "NULL", "CAST", "INDEX", "SIZE"};
    private static final int[] VALUES = {-1, -2, -3, -4, -11, -12, -13, -14};

    public static void main(String[] args) throws IOException, IllegalAccessException {
        constants();
        face();
        insides();
        words(Files.readString(Path.of("src/main/java/LifeList.java")));
        Checks.end();
    }

    private static void constants() throws IllegalAccessException {
        Set<String> found = new TreeSet<>();
        for (Field field : LifeList.class.getDeclaredFields()) {
            if (!Modifier.isPrivate(field.getModifiers())) {
                found.add(field.getName());
                int at = Arrays.asList(CONSTANTS).indexOf(field.getName());
                Checks.yes(field + " is of the face", at >= 0);
                Checks.yes(field + " is public", Modifier.isPublic(field.getModifiers()));
                Checks.due(field.getName(), field.getInt(null), at < 0 ? 0 : VALUES[at]);
            }
        }
        Checks.due("constants", found.size(), CONSTANTS.length);
    }

    private static void face() {
        Checks.yes("the class is public", Modifier.isPublic(LifeList.class.getModifiers()));
        Checks.yes("the class is final", Modifier.isFinal(LifeList.class.getModifiers()));
        Constructor<?>[] constructors = LifeList.class.getDeclaredConstructors();
        Checks.due("constructors", constructors.length, 1);
        Checks.due("its parameters", constructors[0].getParameterCount(), 0);
        Set<String> due = new TreeSet<>(Arrays.asList(FACE));
        Set<String> found = new TreeSet<>();
        for (Method method : LifeList.class.getDeclaredMethods()) {
            if (!Modifier.isPrivate(method.getModifiers())) {
                Checks.yes(method + " is public", Modifier.isPublic(method.getModifiers()));
                Checks.yes(method + " answers an int", method.getReturnType() == int.class);
                found.add(signature(method));
            }
        }
        Checks.yes("face " + found, found.equals(due));
        for (Method method : LifeList.class.getDeclaredMethods()) {
            boolean isOfFace = due.stream().anyMatch(one -> one.split(" ")[0].equals(method.getName()));
            Checks.yes(method + " has a name of its own", Modifier.isPrivate(method.getModifiers()) != isOfFace);
        }
    }

    private static String signature(Method method) {
        StringBuilder text = new StringBuilder(method.getName());
        for (Class<?> type : method.getParameterTypes()) {
            text.append(' ').append(type.getName());
        }
        return text.toString();
    }

    private static void insides() {
        Set<String> names = new HashSet<>();
        for (String one : FACE) {
            names.add(one.split(" ")[0]);
        }
        Class<?>[] insides = LifeList.class.getDeclaredClasses();
        Checks.yes("some twelve classes", insides.length <= 12);
        for (Class<?> inside : insides) {
            Checks.yes(inside + " is static", Modifier.isStatic(inside.getModifiers()));
            Checks.yes(inside + " is not public", !Modifier.isPublic(inside.getModifiers()));
            long fields = Arrays.stream(inside.getDeclaredFields()).filter(FaceTest::isHeld).count();
            Checks.yes(inside + " has some twenty fields", fields <= 20);
            for (Method method : inside.getDeclaredMethods()) {
                Checks.yes(method + " has a name of its own", !names.contains(method.getName()));
                fewParameters(method);
            }
            for (Constructor<?> constructor : inside.getDeclaredConstructors()) {
                fewParameters(constructor);
            }
        }
        for (Method method : LifeList.class.getDeclaredMethods()) {
            if (!method.getName().equals("mention")) {
                fewParameters(method);
            }
        }
    }

    private static boolean isHeld(Member field) {
        return !Modifier.isStatic(field.getModifiers());
    }

    private static void fewParameters(Executable one) {
        Checks.yes(one + " has few parameters", one.getParameterCount() <= 7);
    }

    /** Words that the language leaves out, and calls of the library that it does not name. */
    private static void words(String source) {
        String code = source.replaceAll("(?s)/\\*.*?\\*/", "").replaceAll("//[^\n]*", "")
                .replaceAll("\"[^\"\n]*\"", "\"\"");
        String[] banned = {"throw", "throws", "try", "catch", "finally", "synchronized", "assert", "volatile",
            "native", "strictfp", "goto", "Object", "Exception", "Error", "Thread", "Random", "currentTimeMillis",
            "nanoTime", "hashCode", "toString", "MAX_VALUE", "MIN_VALUE"};
        for (String word : banned) {
            Checks.yes("no " + word, !Pattern.compile("\\b" + word + "\\b").matcher(code).find());
        }
        for (String line : code.split("\n")) {
            boolean isOfField = line.matches("\\s*(private )?final .* = new .*");
            Checks.yes("made once: " + line, isOfField || !line.matches(".*\\bnew\\b.*"));
        }
        Checks.yes("no lambda", !code.contains("->"));
        Checks.yes("no method reference", !code.contains("::"));
        Checks.yes("no annotation", !code.contains("@"));
        Checks.yes("no package line", !code.contains("package "));
        Set<String> allowed = Set.of("Arrays.fill", "System.arraycopy", "Integer.bitCount", "Long.bitCount", "Math.max",
                "Math.min");
        Matcher calls = Pattern.compile("\\b(Arrays|System|Integer|Long|Math|String|Character)\\.(\\w+)").matcher(
                code.replace("import java.util.Arrays;", ""));
        while (calls.find()) {
            Checks.yes(calls.group() + " is of the library", allowed.contains(calls.group()));
        }
        Matcher imports = Pattern.compile("import ([\\w.]+);").matcher(code);
        while (imports.find()) {
            Checks.yes(imports.group(), imports.group(1).equals("java.util.Arrays"));
        }
    }
}
