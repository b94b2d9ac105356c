import java.lang.reflect.Constructor;
import java.lang.reflect.Field;
import java.lang.reflect.Member;
import java.lang.reflect.Method;
import java.lang.reflect.Modifier;
import java.nio.charset.StandardCharsets;
import java.nio.file.Files;
import java.nio.file.Path;
import java.util.Set;
import java.util.TreeSet;
import java.util.regex.Matcher;
import java.util.regex.Pattern;

/** The document's face, and those rules of LANGUAGE.md that can be seen from the source or by reflection. */
public final class FaceTest {
    private static final Check CHECK = new Check("FaceTest");

    static final String[] METHODS = {"type 1", "clear 0", "cell 0", "comes 2", "steps 1", "deafens 3",
        "widens 1", "undo 0", "sort 2", "terminal 2", "block 2", "deaf 2", "drain 0", "enough 1", "ahead 2", "sees 2",
        "forget 0", "unseen 0", "keep 1", "back 1", "count 1"};

    public static void main(String[] args) throws Exception {
        constants();
        members();
        nestedClasses();
        String source = new String(Files.readAllBytes(Path.of("src/main/java/UpwardGrants.java")), StandardCharsets.ISO_8859_1);
        words(source);
        methodsAreShort(source);
        CHECK.end();
    }

    private static void constants() {
        CHECK.due("BAD", UpwardGrants.BAD, -1);
        CHECK.due("STATE", UpwardGrants.STATE, -2);
        CHECK.due("FULL", UpwardGrants.FULL, -3);
        CHECK.due("NONE", UpwardGrants.NONE, -9);
    }

    private static boolean isShown(Member member) {
        return !Modifier.isPrivate(member.getModifiers()) && !member.isSynthetic();
    }

    private static void members() {
        Set<String> shown = new TreeSet<>();
        Set<String> hidden = new TreeSet<>();
        for (Method method : UpwardGrants.class.getDeclaredMethods()) {
            if (isShown(method)) {
                boolean right = method.getReturnType() == int.class && method.getModifiers() == Modifier.PUBLIC;
                CHECK.due(method.getName() + " is a public int method", right ? 1 : 0, 1);
                shown.add(method.getName() + " " + method.getParameterCount());
            } else {
                hidden.add(method.getName());
            }
        }
        CHECK.due("the public methods " + shown, shown.equals(new TreeSet<>(Set.of(METHODS))) ? 1 : 0, 1);
        for (String method : METHODS) {
            String name = method.substring(0, method.indexOf(' '));
            CHECK.due("a private " + name, hidden.contains(name) ? 1 : 0, 0);
        }
        int fields = 0;
        for (Field field : UpwardGrants.class.getDeclaredFields()) {
            fields += isShown(field) ? 1 : 0;
            boolean loose = Modifier.isStatic(field.getModifiers()) && !Modifier.isFinal(field.getModifiers());
            CHECK.due("static and not final: " + field.getName(), loose ? 1 : 0, 0);
        }
        CHECK.due("fields that are shown", fields, 4);
        Constructor<?>[] made = UpwardGrants.class.getDeclaredConstructors();
        CHECK.due("constructors", made.length, 1);
        CHECK.due("a public one without parameters", made[0].getParameterCount() == 0
                && made[0].getModifiers() == Modifier.PUBLIC ? 1 : 0, 1);
        CHECK.due("public and final", UpwardGrants.class.getModifiers(), Modifier.PUBLIC | Modifier.FINAL);
    }

    private static void nestedClasses() {
        Class<?>[] nested = UpwardGrants.class.getDeclaredClasses();
        CHECK.due("some twelve classes at most", nested.length <= 11 ? 1 : 0, 1);
        for (Class<?> one : nested) {
            CHECK.due("static: " + one, Modifier.isStatic(one.getModifiers()) ? 1 : 0, 1);
            CHECK.due("not shown: " + one, one.getModifiers() & (Modifier.PUBLIC | Modifier.PROTECTED), 0);
            int own = 0;
            for (Field field : one.getDeclaredFields()) {
                own += Modifier.isStatic(field.getModifiers()) ? 0 : 1;
            }
            CHECK.due("some twenty fields at most: " + one, own <= 20 ? 1 : 0, 1);
            for (Method method : one.getDeclaredMethods()) {
                CHECK.due("seven parameters at most: " + method, method.getParameterCount() <= 7 ? 1 : 0, 1);
                for (String shown : METHODS) {
                    boolean like = shown.startsWith(method.getName() + " ");
                    CHECK.due("the name of a public method, " + method, like ? 1 : 0, 0);
                }
            }
        }
    }

    /** A method begins behind a line that ends with ") {" and has a name and no keyword ahead, and ends with its indent. */
    private static void methodsAreShort(String source) {
        Matcher methods = Pattern.compile("(?m)^( +)(?:[\\w\\[\\]]+ )*\\w+\\([^()]*\\) \\{\\n(?s:.*?)^\\1\\}$").matcher(source);
        int found = 0;
        while (methods.find()) {
            found++;
            long lines = methods.group().lines().count();
            CHECK.due("some sixty lines at most, not " + lines + ": " + methods.group().lines().findFirst().get(),
                    lines <= 60 ? 1 : 0, 1);
        }
        CHECK.due("methods are found", found > 60 ? 1 : 0, 1);
    }

    private static void words(String source) {
        for (int i = 0; i < source.length(); i++) {
            char sign = source.charAt(i);
            if (sign > 126 || sign < 32 && sign != '\n') {
                CHECK.due("the sign at " + i, sign, ' ');
            }
        }
        String code = source.replaceAll("(?s)/\\*.*?\\*/", " ").replaceAll("//[^\n]*", " ");
        Matcher imports = Pattern.compile("import ([^;]*);").matcher(code);
        while (imports.find()) {
            CHECK.due("import of " + imports.group(1), imports.group(1).equals("java.util.Arrays") ? 1 : 0, 1);
        }
        String forbidden = "\\b(throw|throws|try|catch|finally|synchronized|assert|package|double|float"
                + "|equals|hashCode|toString|Object|System\\.(?!arraycopy)\\w+|Thread|var|native|volatile)\\b|->|::|@|\\bMath\\.\\w+Exact";
        Matcher words = Pattern.compile(forbidden).matcher(code);
        while (words.find()) {
            CHECK.due("a word that is not for here: " + words.group(), 1, 0);
        }
    }
}
