import java.lang.reflect.Constructor;
import java.lang.reflect.Field;
import java.lang.reflect.Method;
import java.lang.reflect.Modifier;
import java.nio.file.Files;
import java.nio.file.Path;
import java.util.ArrayList;
import java.util.HashSet;
import java.util.List;
import java.util.Set;
import java.util.TreeSet;
import java.util.regex.Matcher;
import java.util.regex.Pattern;

/** The face, and those rules of LANGUAGE.md that can be seen in the source or by reflection. */
public final class LanguageTest {
    private static final String SOURCE = "src/main/java/NotYet.java";
    private static final String[] FACE = {
        "boolean sorts int int", "boolean look int int int int", "boolean worth int int int int", "boolean set int int",
        "int classes int int", "int patience int int int", "int pairs int int int int", "int feed int int int int int",
        "boolean end int", "int way int", "int fault int", "int come int int int", "int state int", "int weeks int",
        "int one int int", "int all int int int", "int town int", "boolean feast int", "boolean likes int int int int",
        "int holds", "int pairing int int", "int mended", "boolean price int int", "int sums int int"};
    private static final String[] BANNED = {
        "\\bthrow\\b", "\\bthrows\\b", "\\btry\\b", "\\bcatch\\b", "\\bfinally\\b", "\\bsynchronized\\b", "\\bassert\\b",
        "->", "::", "\\bstatic\\s*\\{", "Exact\\(", "\\bdouble\\b", "\\bfloat\\b", "\\bObject\\b", "System\\.(?!arraycopy)",
        "\\bhashCode\\b", "\\btoString\\b", "\\bthread\\b", "\\bRandom\\b", "\\bMAX_VALUE\\b", "\\bMIN_VALUE\\b",
        "\"\\s*\\+", "\\+\\s*\"", "\\bprotected\\b", "\\bpackage\\b", "\\bgoto\\b", "while\\s*\\(true\\)", "for\\s*\\(;;\\)"};
    private static final Check check = new Check();

    public static void main(String[] args) throws Exception {
        String text = Files.readString(Path.of(SOURCE));
        String bare = text.replaceAll("(?s)/\\*.*?\\*/", "").replaceAll("//[^\n]*", "");
        face();
        banned(bare);
        imports(bare);
        methods(bare);
        classes();
        check.so("1 to 127 alone", text.chars().allMatch(c -> c == 10 || c >= 32 && c < 127));
        check.close();
    }

    private static void face() {
        Set<String> found = new TreeSet<>();
        for (Method method : NotYet.class.getDeclaredMethods()) {
            if (!Modifier.isPrivate(method.getModifiers())) {
                StringBuilder told = new StringBuilder(method.getReturnType() + " " + method.getName());
                for (Class<?> type : method.getParameterTypes()) {
                    told.append(' ').append(type);
                }
                check.so(told + " is public", Modifier.isPublic(method.getModifiers()));
                found.add(told.toString());
            }
        }
        check.so("the face is " + found, found.equals(new TreeSet<>(List.of(FACE))));
        for (Field field : NotYet.class.getDeclaredFields()) {
            check.so(field.getName() + " is private", field.getName().equals("NONE") || Modifier.isPrivate(field.getModifiers()));
        }
        Constructor<?>[] made = NotYet.class.getDeclaredConstructors();
        check.due("one constructor", made.length, 1);
        check.due("without arguments", made[0].getParameterCount(), 0);
        check.so("final", Modifier.isFinal(NotYet.class.getModifiers()));
    }

    private static void banned(String bare) {
        for (String pattern : BANNED) {
            check.so("6, 10 no " + pattern, !Pattern.compile(pattern).matcher(bare).find());
        }
    }

    private static void imports(String bare) {
        Matcher matcher = Pattern.compile("import ([^;]*);").matcher(bare);
        while (matcher.find()) {
            check.so("4 " + matcher.group(1), Set.of("java.util.ArrayList", "java.util.Arrays", "java.util.List").contains(matcher.group(1)));
        }
    }

    private static void methods(String bare) {
        Set<String> face = new HashSet<>();
        for (String told : FACE) {
            face.add(told.split(" ")[1]);
        }
        Pattern head = Pattern.compile("^(\\s+)(\\w[\\w<>\\[\\] ]+ )(\\w+)\\(([^)]*)\\) \\{$");
        String[] lines = bare.split("\n");
        for (int i = 0; i < lines.length; i++) {
            Matcher matcher = head.matcher(lines[i]);
            if (!matcher.matches() || lines[i].contains(" else ")) {
                continue;
            }
            int end = i;
            while (!lines[end].equals(matcher.group(1) + "}")) {
                end++;
            }
            check.so("11 " + matcher.group(3) + " is short", end - i < 60);
            check.so("11 " + matcher.group(3) + " has few parameters", matcher.group(4).split(",").length <= 7);
            check.so("1 " + matcher.group(3) + " is no name of the face",
                matcher.group(2).contains("public") || !face.contains(matcher.group(3)));
        }
    }

    private static void classes() {
        List<Class<?>> all = new ArrayList<>(List.of(NotYet.class.getDeclaredClasses()));
        check.so("11 classes", all.size() + 1 <= 12);
        for (Class<?> one : all) {
            check.so("2 " + one + " is static", Modifier.isStatic(one.getModifiers()));
            int fields = 0;
            for (Field field : one.getDeclaredFields()) {
                boolean constant = Modifier.isStatic(field.getModifiers());
                check.so("5 " + field + " is final", !constant || Modifier.isFinal(field.getModifiers()));
                fields += constant ? 0 : 1;
            }
            check.so("11 fields of " + one, fields <= 20);
        }
    }
}
