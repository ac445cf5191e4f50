import java.io.IOException;
import java.lang.reflect.Constructor;
import java.lang.reflect.Field;
import java.lang.reflect.Method;
import java.lang.reflect.Modifier;
import java.nio.file.Files;
import java.nio.file.Path;
import java.util.Arrays;
import java.util.TreeSet;
import java.util.regex.Matcher;
import java.util.regex.Pattern;

/** The face of the document, and what of LANGUAGE.md can be seen by reflection or by words. */
public final class LanguageTest {
    private static final String[] FACE = {
        "int about(int)", "int again(int)", "int at(int)", "int attempt(int,int)", "int column(int)",
        "int down(int)", "int fault()", "int idea()", "int judge(int,long)", "int keep(int)",
        "int kinds(int)", "int loses(int)", "int part(int,int)", "int put(int)", "int rain()",
        "int rests(int,int,int)", "int share(int,boolean)", "int soon(int,int)", "int strike(int)",
        "int terms(int)", "int unattempt()", "int undo()", "int wet(int,int,boolean)", "int wipe()",
        "int write(int)", "long seed(long)"
    };
    private static final String[] FORBIDDEN = {
        "throw", "throws", "try", "catch", "finally", "synchronized", "assert", "import", "package",
        "native", "volatile", "transient", "->", "::", "System", "Object", "Thread", "Random",
        "@\\w+", "protected", "var", "yield", "equals", "hashCode", "toString"
    };
    /** The library's types that the class may name at all, beside its own. */
    private static final String[] LIBRARY = {
        "String", "StringBuilder", "Integer", "Long", "Math", "Arrays", "ArrayList", "List"
    };
    private static final int MOST_LINES = 60;
    private static final int MOST_PARAMETERS = 7;
    private static int wrong = 0;

    public static void main(String[] args) throws IOException {
        face();
        constants();
        nestedClasses();
        parameters();
        words();
        namesOfTypes();
        lengthsOfMethods();
        System.out.println(wrong + " rules of the face and the language not kept");
        if (wrong != 0) {
            System.exit(1);
        }
    }

    private static void must(boolean so, String rule) {
        if (!so) {
            wrong++;
            System.out.println("not so: " + rule);
        }
    }

    private static void face() {
        must(Modifier.isFinal(IdeaCage.class.getModifiers()), "the class is final");
        TreeSet<String> seen = new TreeSet<>();
        TreeSet<String> publicNames = new TreeSet<>();
        for (Method method : IdeaCage.class.getDeclaredMethods()) {
            if (Modifier.isPublic(method.getModifiers())) {
                seen.add(told(method));
                publicNames.add(method.getName());
                must(!Modifier.isStatic(method.getModifiers()), method.getName() + " is not static");
            } else {
                must(Modifier.isPrivate(method.getModifiers()), method.getName() + " is private");
            }
        }
        must(seen.equals(new TreeSet<>(Arrays.asList(FACE))), "the face is the document's: " + seen);
        for (Method method : IdeaCage.class.getDeclaredMethods()) {
            must(Modifier.isPublic(method.getModifiers()) || !publicNames.contains(method.getName()),
                    "no private method bears a public name: " + method.getName());
        }
        Constructor<?>[] made = IdeaCage.class.getDeclaredConstructors();
        must(made.length == 1 && made[0].getParameterCount() == 0
                && Modifier.isPublic(made[0].getModifiers()), "one public constructor");
    }

    private static String told(Method method) {
        StringBuilder types = new StringBuilder();
        for (Class<?> type : method.getParameterTypes()) {
            types.append(types.length() == 0 ? "" : ",").append(type.getName());
        }
        return method.getReturnType().getName() + " " + method.getName() + "(" + types + ")";
    }

    private static void constants() {
        TreeSet<String> seen = new TreeSet<>();
        for (Field field : IdeaCage.class.getDeclaredFields()) {
            if (Modifier.isPublic(field.getModifiers())) {
                seen.add(field.getName());
            } else {
                must(Modifier.isPrivate(field.getModifiers()), field.getName() + " is private");
            }
        }
        must(seen.equals(new TreeSet<>(Arrays.asList("UNKNOWN", "BAD", "LATE", "FULL", "NONE"))),
                "the constants are the document's: " + seen);
        must(IdeaCage.UNKNOWN == -1 && IdeaCage.BAD == -2 && IdeaCage.LATE == -3
                && IdeaCage.FULL == -4 && IdeaCage.NONE == -9, "the constants' values");
    }

    private static void nestedClasses() {
        Class<?>[] inside = IdeaCage.class.getDeclaredClasses();
        must(inside.length <= 11, "at most some twelve classes");
        for (Class<?> type : inside) {
            must(Modifier.isStatic(type.getModifiers()) && Modifier.isPrivate(type.getModifiers()),
                    type.getName() + " is private and static");
        }
        for (Class<?> type : concat(inside, IdeaCage.class)) {
            int fields = 0;
            for (Field field : type.getDeclaredFields()) {
                boolean isStatic = Modifier.isStatic(field.getModifiers());
                fields += isStatic ? 0 : 1;
                must(!isStatic || Modifier.isFinal(field.getModifiers()),
                        "static fields are final: " + field.getName());
            }
            must(fields <= 20, type.getName() + " has at most some twenty fields");
        }
    }

    private static Class<?>[] concat(Class<?>[] some, Class<?> one) {
        Class<?>[] all = Arrays.copyOf(some, some.length + 1);
        all[some.length] = one;
        return all;
    }

    private static void parameters() {
        for (Class<?> type : concat(IdeaCage.class.getDeclaredClasses(), IdeaCage.class)) {
            for (Method method : type.getDeclaredMethods()) {
                must(method.getParameterCount() <= MOST_PARAMETERS, told(method) + " has few parameters");
            }
        }
    }

    private static String source() throws IOException {
        return Files.readString(Path.of("src/main/java/IdeaCage.java"));
    }

    private static String withoutComments(String source) {
        return source.replaceAll("(?s)/\\*.*?\\*/", "").replaceAll("//[^\n]*", "");
    }

    private static void words() throws IOException {
        String source = source();
        String code = withoutComments(source);
        for (String word : FORBIDDEN) {
            boolean isWord = Character.isLetter(word.charAt(0));
            Pattern pattern = Pattern.compile(isWord ? "\\b" + word + "\\b" : word);
            must(!pattern.matcher(code).find(), "no '" + word + "' in the class");
        }
        must(source.chars().allMatch(c -> c < 128), "plain signs alone");
    }

    private static void namesOfTypes() throws IOException {
        TreeSet<String> known = new TreeSet<>(Arrays.asList(LIBRARY));
        for (Class<?> type : concat(IdeaCage.class.getDeclaredClasses(), IdeaCage.class)) {
            known.add(type.getSimpleName());
        }
        Matcher name = Pattern.compile("\\b[A-Z]\\w*[a-z]\\w*").matcher(withoutComments(source()));
        while (name.find()) {
            must(known.contains(name.group()), "a type of its own or of the library: " + name.group());
        }
    }

    /** A method begins with a row that ends in ") {", and ends with a brace as far from the left. */
    private static void lengthsOfMethods() throws IOException {
        String[] rows = source().split("\n");
        int methods = 0;
        for (int first = 0; first < rows.length; first++) {
            Matcher head = Pattern.compile("( {4}| {8})\\w[\\w ]*\\(.*\\) \\{").matcher(rows[first]);
            if (head.matches() && !rows[first].trim().matches("(if|for|while|switch) .*")) {
                int last = first;
                while (last < rows.length && !rows[last].equals(head.group(1) + "}")) {
                    last++;
                }
                methods++;
                must(last - first < MOST_LINES, "a short method: " + rows[first].trim());
            }
        }
        must(methods > FACE.length, "the methods are found: " + methods);
    }
}
