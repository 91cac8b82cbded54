import java.io.IOException;
import java.lang.reflect.Constructor;
import java.lang.reflect.Executable;
import java.lang.reflect.Field;
import java.lang.reflect.Method;
import java.lang.reflect.Modifier;
import java.nio.charset.StandardCharsets;
import java.nio.file.Files;
import java.nio.file.Path;
import java.util.ArrayList;
import java.util.Arrays;
import java.util.List;
import java.util.Set;
import java.util.TreeSet;
import java.util.regex.Matcher;
import java.util.regex.Pattern;

/** The face of the class, and those rules of the language that can be read off the class or its text. */
public final class LanguageRules {
    private static final String B = " IndexOutOfBoundsException";
    private static final String A = " IllegalArgumentException";
    private static final String S = " IllegalStateException";
    private static final String[] FACE = {
        "HailCity()", "int street(int, int, int)" + B + A + S, "int slow(int, int)" + B + A, "int way(int, int)" + B,
        "int driver(int)" + B + S, "boolean rest(int, boolean)" + B + S, "int wander(int, int)" + B + S,
        "int cap(int)" + A, "int height(int)" + B, "int request(int, int, int, boolean)" + B + A + S,
        "int cancel(int)" + B + S, "int rate(int, int)" + B + A + S, "int airport()", "int best()" + S,
        "int bestAnew()" + S, "int match()" + S, "int share()", "int requestIs(int, int)" + B + A,
        "int driverIs(int, int)" + B + A, "int stop(int, int, boolean)" + B, "int pay(int)" + B, "int pass(int)" + A + S,
        "int NONE", "int WAITS", "int SENT", "int ABOARD", "int DONE", "int GONE"};
    private static final String[] NOT_IN_TEXT = {
        "->", "::", "\\bcatch\\b", "\\bfinally\\b", "\\bsynchronized\\b", "\\bassert\\b", "\\bpackage\\b", "Exact\\b",
        "\\+ *\"", "\" *\\+", "\\bInteger\\.[A-Z]", "\\bLong\\.[A-Z]", "\\bgetMessage\\b", "\\bRandom\\b",
        "\\bimport\\b(?! java\\.util\\.(ArrayList|List|Arrays|Iterator);)", "\\bSystem\\.(?!arraycopy)",
        "\\bMath\\.(?!(max|min|abs|floorDiv|floorMod)\\b)", "\\bwhile *\\(true\\)", "for *\\(;;\\)", "[^\\x00-\\x7f]"};

    private static final String[] AHEAD_OF_CALLS = {
        "streets\n\n    public int street(", "drivers\n\n    public int driver(", "requests\n\n    public int cap(",
        "matches\n\n    public int airport(", "asking\n\n    public int requestIs("};

    private static int wrong = 0;

    public static void main(String[] args) throws IOException {
        Path root = Path.of(args.length > 0 ? args[0] : ".");
        String text = Files.readString(root.resolve("src/main/java/HailCity.java"), StandardCharsets.UTF_8);
        checkFace();
        List<Class<?>> all = new ArrayList<>(List.of(HailCity.class));
        all.addAll(Arrays.asList(HailCity.class.getDeclaredClasses()));
        must(all.size() <= 12, "some twelve classes");
        for (Class<?> each : all) {
            checkClass(each);
        }
        checkText(text);
        System.out.println("LanguageRules: " + wrong + " wrong");
        if (wrong > 0) {
            System.exit(1);
        }
    }

    private static void must(boolean is, String what) {
        if (!is) {
            wrong++;
            System.out.println("not kept: " + what);
        }
    }

    private static String told(Executable each, String head) {
        StringBuilder told = new StringBuilder(head).append('(');
        for (Class<?> type : each.getParameterTypes()) {
            told.append(told.charAt(told.length() - 1) == '(' ? "" : ", ").append(type.getSimpleName());
        }
        told.append(')');
        for (Class<?> thrown : each.getExceptionTypes()) {
            told.append(' ').append(thrown.getSimpleName());
        }
        return told.toString();
    }

    private static void checkFace() {
        Set<String> found = new TreeSet<>();
        for (Constructor<?> each : HailCity.class.getDeclaredConstructors()) {
            found.add(told(each, "HailCity"));
        }
        for (Method each : HailCity.class.getDeclaredMethods()) {
            if (!Modifier.isPrivate(each.getModifiers()) && !each.isSynthetic()) {
                found.add(told(each, each.getReturnType().getSimpleName() + " " + each.getName()));
            }
        }
        for (Field each : HailCity.class.getDeclaredFields()) {
            if (!Modifier.isPrivate(each.getModifiers())) {
                found.add(each.getType().getSimpleName() + " " + each.getName());
            }
        }
        Set<String> due = new TreeSet<>(Arrays.asList(FACE));
        must(found.equals(due), "the face: " + found);
        must(Modifier.toString(HailCity.class.getModifiers()).equals("public final"), "public and final");
    }

    private static void checkClass(Class<?> each) {
        int fields = 0;
        for (Field field : each.getDeclaredFields()) {
            boolean isStatic = Modifier.isStatic(field.getModifiers());
            must(!isStatic || Modifier.isFinal(field.getModifiers()), "static fields are final: " + field);
            fields += isStatic ? 0 : 1;
        }
        must(fields <= 20, "some twenty fields: " + each);
        for (Method method : each.getDeclaredMethods()) {
            must(method.getParameterCount() <= 7, "at most seven parameters: " + method);
            boolean isOfFace = false;
            for (String one : FACE) {
                isOfFace |= one.contains(" " + method.getName() + "(");
            }
            must(!isOfFace || each == HailCity.class && Modifier.isPublic(method.getModifiers()),
                    "no other method has a name of the face: " + method);
        }
        if (each != HailCity.class) {
            must(Modifier.isStatic(each.getModifiers()), "static classes inside: " + each);
        }
    }

    private static void checkText(String text) {
        String bare = text.replaceAll("(?s)/\\*.*?\\*/", "").replaceAll("//[^\n]*", "");
        for (String not : NOT_IN_TEXT) {
            Matcher matcher = Pattern.compile(not).matcher(bare);
            must(!matcher.find(), "nothing like " + not);
        }
        for (String each : AHEAD_OF_CALLS) {
            must(text.contains("    // ---- " + each), "what the interface says ahead of its calls: " + each);
        }
        int start = -1;
        String[] lines = text.split("\n");
        for (int i = 0; i < lines.length; i++) {
            must(lines[i].length() <= 120, "lines of 120 signs: line " + (i + 1));
            if (lines[i].matches("( {4}| {8})\\w.*[{,)]\\s*") && lines[i].contains("(") && !lines[i].contains(" class ")) {
                start = i;
            }
            if (start >= 0 && lines[i].matches("( {4}| {8})\\}")) {
                must(i - start < 60, "methods stay short: line " + (start + 1));
            }
        }
    }
}
