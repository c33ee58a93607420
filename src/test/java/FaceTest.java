import java.lang.reflect.Field;
import java.lang.reflect.Method;
import java.lang.reflect.Modifier;
import java.nio.file.Files;
import java.nio.file.Path;
import java.util.Arrays;
import java.util.List;
import java.util.Set;
import java.util.TreeSet;
import java.util.regex.Matcher;
import java.util.regex.Pattern;

/** The public face as the document has it, and the rules of the language that can be seen from outside. */
public final class FaceTest {
    private static final String[] FACE = {
        "write(long,int)", "erase()", "fault()", "street()", "off(int)", "far(int,int)", "shows(int,int,int)",
        "byClocks(int,int)", "gaining(int)", "deed(int,int)", "go(int)", "await(int)", "here(int)", "keep(int)",
        "back(int)", "order(int)", "behind(int,int)", "most(int,int)", "walk(int)", "rest()", "walked(int,int)",
        "trade(int,int,int)", "bell(int,int,int,int)", "hush()", "wrong(int)", "seen(int,int,int)", "forget()",
        "liars()", "canBe(int,int)", "hang(int)", "ring(int)", "count(int)"};
    private static final String[] CONSTANTS = {"FULL=-5", "NONE=-1", "NOT=-4", "OUTSIDE=-3", "UNKNOWN=-2"};
    private static final List<String> FORBIDDEN = List.of("import", "package", "throw", "throws", "try", "catch",
        "finally", "synchronized", "assert", "protected", "native", "volatile", "transient", "System", "Object",
        "Exception", "Error", "Thread", "Random", "Exact", "var", "instanceof");
    private static int wrong = 0;

    private static void must(boolean holds, String what) {
        if (!holds) {
            wrong++;
            System.out.println("not so: " + what);
        }
    }

    public static void main(String[] args) throws Exception {
        Class<?> face = MinuteBehind.class;
        publicMembers(face);
        membersOf(face);
        for (Class<?> inner : face.getDeclaredClasses()) {
            must(Modifier.isStatic(inner.getModifiers()), inner + " is static");
            must(!Modifier.isPublic(inner.getModifiers()) && !Modifier.isProtected(inner.getModifiers()),
                inner + " is not visible outside");
            membersOf(inner);
        }
        must(face.getDeclaredClasses().length < 12, "at most twelve classes");
        if (args.length > 0) {
            source(Files.readString(Path.of(args[0])));
        }
        System.out.println(wrong == 0 ? "the face is as told" : wrong + " rules are broken");
        if (wrong != 0) {
            System.exit(1);
        }
    }

    private static void publicMembers(Class<?> face) throws IllegalAccessException {
        must(Modifier.isPublic(face.getModifiers()) && Modifier.isFinal(face.getModifiers()), "public final class");
        must(face.getDeclaredConstructors().length == 1 && face.getConstructors().length == 1
            && face.getConstructors()[0].getParameterCount() == 0, "one public constructor without parameters");
        Set<String> methods = new TreeSet<>();
        for (Method m : face.getDeclaredMethods()) {
            if (!Modifier.isPrivate(m.getModifiers())) {
                must(m.getReturnType() == int.class && !Modifier.isStatic(m.getModifiers()), m + " answers an int");
                methods.add(m.getName() + Arrays.toString(m.getParameterTypes()).replace("[", "(")
                    .replace("]", ")").replace(" ", ""));
            }
        }
        must(methods.equals(new TreeSet<>(List.of(FACE))), "the methods are those of the document: " + methods);
        Set<String> constants = new TreeSet<>();
        for (Field f : face.getDeclaredFields()) {
            if (!Modifier.isPrivate(f.getModifiers())) {
                must(Modifier.isStatic(f.getModifiers()) && f.getType() == int.class, f + " is a constant");
                constants.add(f.getName() + "=" + f.getInt(null));
            }
        }
        must(constants.equals(new TreeSet<>(List.of(CONSTANTS))), "the constants are those of the document");
    }

    private static void membersOf(Class<?> type) {
        int fields = 0;
        for (Field f : type.getDeclaredFields()) {
            boolean isStatic = Modifier.isStatic(f.getModifiers());
            must(!isStatic || Modifier.isFinal(f.getModifiers()), f + " is final");
            fields += isStatic ? 0 : 1;
        }
        must(fields <= 20, type + " has at most twenty fields");
        for (Method m : type.getDeclaredMethods()) {
            must(m.getParameterCount() <= 7, m + " has at most seven parameters");
            boolean bearsName = Arrays.stream(FACE).anyMatch(f -> f.startsWith(m.getName() + "("));
            must(!bearsName || Modifier.isPublic(m.getModifiers()), m + " does not bear a public method's name");
        }
    }

    private static void source(String text) {
        String code = text.replaceAll("(?s)/\\*.*?\\*/", " ").replaceAll("//[^\n]*", " ")
            .replaceAll("\"[^\"]*\"", "TEXT").replaceAll("'[^']*'", "SIGN");
        for (String word : FORBIDDEN) {
            must(!Pattern.compile("\\b" + word + "\\b").matcher(code).find(), "no '" + word + "' in the source");
        }
        must(!code.contains("->") && !code.contains("::"), "no lambda, no method reference");
        must(!Pattern.compile("\\w+Exact\\b|\\w+Exception\\b").matcher(code).find(), "no exact sums, no exceptions");
        must(text.chars().allMatch(c -> c < 128), "plain signs alone");
        Matcher calls = Pattern.compile("\\b(Math|Integer|Long)\\.(\\w+)").matcher(code);
        while (calls.find()) {
            must(List.of("floorMod", "floorDiv", "min", "max", "abs", "bitCount").contains(calls.group(2)),
                calls.group() + " is in the library that is left");
        }
        methodsStayShort(code);
        objectsAreMadeInFieldsAlone(code);
        must(!Pattern.compile("[/%]=?\\s*+(?!DAY\\b)").matcher(code).find(),
            "nothing is divided by a number that could be 0");
    }

    /** The room that all calls share is spent by constructors alone. */
    private static void objectsAreMadeInFieldsAlone(String code) {
        for (String line : code.split("\n")) {
            must(!line.matches(".*\\bnew\\b.*") || line.matches(" +(private )?final [\\w\\[\\]]+ \\w+ = new .*;"),
                "made with its object, not by a call: " + line.trim());
        }
    }

    private static void methodsStayShort(String code) {
        int start = -1, number = 0;
        for (String line : code.split("\n")) {
            number++;
            if (line.matches("\\s+[\\w ]*\\w+\\(.*\\) \\{") && !line.matches("\\s+(if|for|while|switch|\\}).*")) {
                start = number;
            }
            must(start < 0 || !line.matches(" {4,8}\\}") || number - start <= 60, "the method at " + start + " is short");
            if (line.matches(" {4,8}\\}")) {
                start = -1;
            }
        }
    }
}
