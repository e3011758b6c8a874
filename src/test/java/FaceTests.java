import java.lang.reflect.Constructor;
import java.lang.reflect.Field;
import java.lang.reflect.Method;
import java.lang.reflect.Modifier;
import java.nio.file.Files;
import java.nio.file.Path;
import java.util.ArrayList;
import java.util.List;
import java.util.Map;
import java.util.Set;
import java.util.TreeMap;
import java.util.TreeSet;
import java.util.regex.Matcher;
import java.util.regex.Pattern;

/** The public face of the document, and those rules of LANGUAGE.md that a look at the class or its text can tell. */
public final class FaceTests {
    private static final Due D = new Due();
    private static final String FACE = "cell(int,int,int) clearText() close(boolean) column(int) count(int) heat(int,boolean)"
            + " keep() lay(int,int,boolean) read() restore() setField(int,int,int) setPull(boolean,int) settle() sweep(int)"
            + " turn(int,int) turnPatch(int,int) type(char) undo() withEnergy(int) withUps(int,boolean) withWalls(int)";
    private static final String CONSTANTS = "BAD_VALUE FULL NONE NOT_POSSIBLE UNKNOWN";
    private static final Set<String> LIBRARY = Set.of("System.arraycopy", "Arrays.fill", "Math.abs", "Math.min",
            "Math.max", "Integer.bitCount", "Long.bitCount");

    public static void main(String[] args) throws Exception {
        members();
        nestedClasses();
        String code = Files.readString(Path.of(args[0])).replaceAll("(?s)/\\*.*?\\*/", "").replaceAll("//[^\n]*", "")
                .replaceAll("'[^']'", "0");
        words(code);
        library(code);
        methodLengths(code);
        callDepths(code);
        D.end();
    }

    private static void say(String rule, boolean holds) {
        D.due(rule, holds ? 1 : 0, 1);
    }

    private static void members() {
        say("the class is public and final", Modifier.isPublic(SpinStrips.class.getModifiers())
                && Modifier.isFinal(SpinStrips.class.getModifiers()));
        Set<String> methods = new TreeSet<>();
        for (Method method : SpinStrips.class.getDeclaredMethods()) {
            if (!Modifier.isPrivate(method.getModifiers())) {
                List<String> types = new ArrayList<>();
                for (Class<?> type : method.getParameterTypes()) {
                    types.add(type.getName());
                }
                methods.add(method.getName() + "(" + String.join(",", types) + ")");
                say(method + " is public and answers an int", Modifier.isPublic(method.getModifiers())
                        && !Modifier.isStatic(method.getModifiers()) && method.getReturnType() == int.class);
            }
        }
        say("the methods are " + methods, String.join(" ", methods).equals(FACE));
        Set<String> constants = new TreeSet<>();
        for (Field field : SpinStrips.class.getDeclaredFields()) {
            if (!Modifier.isPrivate(field.getModifiers())) {
                constants.add(field.getName());
                say(field + " is a constant", Modifier.isPublic(field.getModifiers())
                        && Modifier.isStatic(field.getModifiers()) && field.getType() == int.class);
            }
            say(field + ": static fields are final",
                    !Modifier.isStatic(field.getModifiers()) || Modifier.isFinal(field.getModifiers()));
        }
        say("the constants are " + constants, String.join(" ", constants).equals(CONSTANTS));
        Constructor<?>[] constructors = SpinStrips.class.getDeclaredConstructors();
        say("one public constructor", constructors.length == 1 && constructors[0].getParameterCount() == 0
                && Modifier.isPublic(constructors[0].getModifiers()));
    }

    private static void nestedClasses() {
        Class<?>[] nested = SpinStrips.class.getDeclaredClasses();
        say("at most 12 classes", nested.length < 12);
        for (Class<?> one : nested) {
            say(one + " is private or package-visible and static", Modifier.isStatic(one.getModifiers())
                    && !Modifier.isPublic(one.getModifiers()) && !Modifier.isProtected(one.getModifiers()));
            for (Method method : one.getDeclaredMethods()) {
                say(method + " has a name of its own", !(" " + FACE).contains(" " + method.getName() + "("));
                say(method + " has at most 7 parameters", method.getParameterCount() <= 7);
            }
            for (Constructor<?> constructor : one.getDeclaredConstructors()) {
                say(constructor + " is given nothing, so no constructor hands out a part of its object",
                        constructor.getParameterCount() == 0);
            }
            int fields = 0;
            for (Field field : one.getDeclaredFields()) {
                fields += Modifier.isStatic(field.getModifiers()) ? 0 : 1;
            }
            say(one + " has at most 20 fields", fields <= 20);
        }
    }

    private static void words(String code) {
        String[] forbidden = {"->", "::", "\\btry\\b", "\\bcatch\\b", "\\bfinally\\b", "\\bthrows?\\b", "\\bsynchronized\\b",
            "\\bassert\\b", "\\bException\\b", "\\bdouble\\b", "\\bFloat\\b", "\\bvar\\b", "\\bstatic\\s*\\{", "\\bpackage\\b",
            "\\bhashCode\\b", "\\btoString\\b", "\\bList\\b", "\\bRandom\\b", "[^\\x00-\\x7f]", "\""};
        for (String word : forbidden) {
            say("no " + word, !Pattern.compile(word).matcher(code).find());
        }
    }

    private static void library(String code) {
        Matcher imports = Pattern.compile("import ([^;]*);").matcher(code);
        while (imports.find()) {
            say("import " + imports.group(1), imports.group(1).equals("java.util.Arrays"));
        }
        String own = "Strip|History|Text|Prices|Sums|Least|AllStrips";
        Matcher calls = Pattern.compile("\\b([A-Z][a-z]\\w*)\\.(\\w+)").matcher(code.replaceAll("import [^;]*;", ""));
        while (calls.find()) {
            say("the library has no " + calls.group(), calls.group(1).matches(own) || LIBRARY.contains(calls.group()));
        }
    }

    private static Matcher methods(String code) {
        return Pattern.compile("\n( {4}| {8})(?! )[^\n=(]*\\b(\\w+)\\([^\n)]*\\) \\{(.*?)\n\\1\\}", Pattern.DOTALL)
                .matcher(code);
    }

    private static void methodLengths(String code) {
        int found = 0;
        for (Matcher method = methods(code); method.find(); found++) {
            say(method.group(2) + " has at most 60 lines", method.group(3).split("\n").length < 60);
        }
        say("the methods are found in the text", found > SpinStrips.class.getDeclaredMethods().length);
    }

    /** Methods of one name are taken as one, so that a chain is never told shorter than it is. */
    private static void callDepths(String code) {
        Map<String, Set<String>> calls = new TreeMap<>();
        for (Matcher method = methods(code); method.find(); ) {
            Set<String> called = calls.computeIfAbsent(method.group(2), name -> new TreeSet<>());
            Matcher names = Pattern.compile("(?<!Arrays\\.|Math\\.)\\b([a-z]\\w*)\\(").matcher(method.group(3));
            while (names.find()) {
                called.add(names.group(1));
            }
        }
        for (String name : FACE.replaceAll("\\([^)]*\\)", "").split(" ")) {
            say(name + " is found in the text", calls.containsKey(name));
            say("the calls of " + name + " go at most eight deep, and none calls itself", depth(name, calls, 0) <= 8);
        }
    }

    private static int depth(String name, Map<String, Set<String>> calls, int above) {
        int deepest = 0;
        for (String called : calls.getOrDefault(name, Set.of())) {
            if (calls.containsKey(called) && above < 20) {
                deepest = Math.max(deepest, depth(called, calls, above + 1));
            }
        }
        return deepest + 1;
    }
}
