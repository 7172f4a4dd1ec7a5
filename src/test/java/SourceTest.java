import java.io.IOException;
import java.lang.reflect.Field;
import java.lang.reflect.Method;
import java.lang.reflect.Modifier;
import java.nio.file.Files;
import java.nio.file.Path;
import java.util.Set;
import java.util.TreeSet;
import java.util.regex.Matcher;
import java.util.regex.Pattern;

/** The face that the document tells, and those rules of LANGUAGE.md that can be seen from outside. */
public final class SourceTest {
    private static final Path SOURCE = Path.of("src/main/java/DayTown.java");
    private static final String FACE = "age(int,int,int) awake(int,int,int) back(int) ban(int,int) "
            + "chain(int,int,int,int) count(int) counts(int,int) doer(int,int,int) feast(int,boolean) "
            + "feed(int,int,int,int,int) forged(int) grows(int,int) holder(int,int,int) isVoid(int,int) "
            + "leaves(int,int) loan(int,int,int,int,int) meeting(int) net(int,int,int) "
            + "owes(int,int,int,int) pays(int,int,int,int,int) person(int) place() read() "
            + "ring(int,int,int) seen(int,int,int,int) turned(int,int)";
    private static final String NO_WORDS = "\\b(throw|throws|try|catch|synchronized|assert|instanceof|"
            + "static\\s*\\{|finalize|hashCode|toString|equals|Thread|Random|System\\.(?!arraycopy))\\b|->|::";
    private static int wrong = 0;

    public static void main(String[] args) throws IOException {
        face();
        source(Files.readString(SOURCE));
        for (Class<?> inner : DayTown.class.getDeclaredClasses()) {
            inner(inner);
        }
        System.out.println("SourceTest: " + wrong + " wrong");
        if (wrong != 0) {
            System.exit(1);
        }
    }

    private static void due(boolean holds, String what) {
        if (!holds) {
            wrong++;
            System.out.println("SourceTest: " + what);
        }
    }

    private static void face() {
        Set<String> methods = new TreeSet<>();
        Set<String> names = new TreeSet<>();
        for (Method method : DayTown.class.getDeclaredMethods()) {
            if (Modifier.isPublic(method.getModifiers())) {
                names.add(method.getName());
                methods.add(method.toString().replaceAll(".*DayTown\\.", ""));
                due(method.getReturnType() == int.class, method + " answers no int");
            }
        }
        due(String.join(" ", methods).equals(FACE), "the face is " + methods);
        for (Method method : DayTown.class.getDeclaredMethods()) {
            int modifiers = method.getModifiers();
            due(Modifier.isPublic(modifiers) || Modifier.isPrivate(modifiers), method + " can be seen");
            due(Modifier.isPublic(modifiers) || !names.contains(method.getName()), method + " bears a public name");
        }
        for (Field field : DayTown.class.getDeclaredFields()) {
            boolean isNone = field.getName().equals("NONE");
            due(isNone || Modifier.isPrivate(field.getModifiers()), field + " can be seen");
        }
        due(DayTown.class.getDeclaredConstructors().length == 1, "one constructor");
        due(Modifier.isFinal(DayTown.class.getModifiers()), "the class is final");
        fields(DayTown.class);
        due(DayTown.class.getDeclaredClasses().length < 12, "twelve classes");
    }

    private static void inner(Class<?> inner) {
        due(Modifier.isStatic(inner.getModifiers()), inner + " is not static");
        due(!Modifier.isPublic(inner.getModifiers()), inner + " is public");
        for (Method method : inner.getDeclaredMethods()) {
            due(!FACE.matches("(.* )?" + method.getName() + "\\(.*"), method + " bears a public name");
            due(method.getParameterCount() <= 7, method + " takes too many");
        }
        fields(inner);
    }

    private static void fields(Class<?> some) {
        int count = 0;
        for (Field field : some.getDeclaredFields()) {
            boolean isStatic = Modifier.isStatic(field.getModifiers());
            count += isStatic ? 0 : 1;
            due(!isStatic || Modifier.isFinal(field.getModifiers()), field + " is static and changes");
        }
        due(count <= 20, some + " has " + count + " fields");
    }

    private static void source(String text) {
        String code = text.replaceAll("(?s)/\\*.*?\\*/", "").replaceAll("//[^\n]*", "")
                .replaceAll("\"[^\"\n]*\"", "\"\"");
        Matcher word = Pattern.compile(NO_WORDS).matcher(code);
        while (word.find()) {
            due(false, "the source has " + word.group());
        }
        Matcher imported = Pattern.compile("import ([^;]*);").matcher(code);
        while (imported.find()) {
            due(imported.group(1).matches("java\\.util\\.(Arrays|ArrayList|List)"), imported.group());
        }
        due(!code.contains("package "), "a package line");
        due(text.chars().allMatch(sign -> sign < 127), "a sign that is not of ASCII");
        lengths(text);
    }

    /** A method ends with a brace as deep as its own first line. */
    private static void lengths(String text) {
        String[] lines = text.split("\n");
        Pattern head = Pattern.compile("( {4}| {8})(?!private static final class)[a-zA-Z].*\\) \\{");
        for (int i = 0; i < lines.length; i++) {
            Matcher matcher = head.matcher(lines[i]);
            if (matcher.matches()) {
                int end = i + 1;
                while (end < lines.length && !lines[end].equals(matcher.group(1) + "}")) {
                    end++;
                }
                due(end - i <= 60, "too long: " + lines[i]);
            }
        }
    }
}
