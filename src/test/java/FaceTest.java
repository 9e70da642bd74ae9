import java.io.IOException;
import java.lang.reflect.Constructor;
import java.lang.reflect.Field;
import java.lang.reflect.Method;
import java.lang.reflect.Modifier;
import java.nio.file.Files;
import java.nio.file.Path;
import java.util.Set;
import java.util.TreeSet;
import java.util.regex.Matcher;
import java.util.regex.Pattern;

/** The public face of the document, and those rules of LANGUAGE.md that can be seen from outside or by words. */
public final class FaceTest {
    private static final String[] FACE = {"feed 5", "end 1", "rule 0", "ruleByte 2", "field 1", "put 4", "at 3",
        "read 3", "textByte 2", "steps 2", "jump 2", "about 2", "period 2", "shift 1", "congruent 2", "empty 1",
        "still 3", "oscillators 4", "ancestors 4", "garden 3", "found 1", "grid 3", "set 4", "cell 3", "fill 3",
        "go 2", "amount 2", "reversible 1", "clash 2", "weights 1", "weight 3", "count 1", "remove 1"};
    private static final String[] FORBIDDEN = {"\\bthrow\\b", "\\btry\\b", "\\bcatch\\b", "\\bsynchronized\\b",
        "\\bassert\\b", "->", "::", "\\bpackage\\b", "\\bSystem\\.(?!arraycopy)", "\\w+Exact\\b", "\\bprotected\\b",
        "\\.(equals|hashCode|toString)\\(", "\\bstatic \\{", "\\bdouble\\b", "\\bfloat\\b"};

    public static void main(String[] args) throws IOException {
        face();
        classesInside();
        words();
        Check.end("FaceTest");
    }

    private static void face() {
        Class<CellMuseum> type = CellMuseum.class;
        Check.due("public and final", Modifier.isPublic(type.getModifiers()) && Modifier.isFinal(type.getModifiers()));
        Set<String> due = new TreeSet<>(Set.of(FACE));
        Set<String> names = new TreeSet<>();
        for (String method : FACE) {
            names.add(method.substring(0, method.indexOf(' ')));
        }
        Set<String> seen = new TreeSet<>();
        for (Method method : type.getDeclaredMethods()) {
            if (Modifier.isPrivate(method.getModifiers())) {
                Check.due("a private method named " + method.getName(), !names.contains(method.getName()));
                continue;
            }
            Check.due(method + " is public", Modifier.isPublic(method.getModifiers()));
            Check.due(method + " is not static", !Modifier.isStatic(method.getModifiers()));
            Check.due(method + " answers an int", method.getReturnType() == int.class);
            seen.add(method.getName() + " " + method.getParameterCount());
        }
        Check.due("the methods " + seen, seen.equals(due));
        Constructor<?>[] constructors = type.getDeclaredConstructors();
        Check.due("constructors", constructors.length, 1);
        Check.due("the constructor is public", Modifier.isPublic(constructors[0].getModifiers()));
        Check.due("the constructor takes nothing", constructors[0].getParameterCount(), 0);
        Set<String> constants = new TreeSet<>();
        for (Field field : type.getDeclaredFields()) {
            boolean isPrivate = Modifier.isPrivate(field.getModifiers());
            Check.due(field + " is private or public", isPrivate || Modifier.isPublic(field.getModifiers()));
            if (!isPrivate) {
                constants.add(field.getName());
            }
        }
        Check.due("the constants " + constants, constants.equals(Set.of("BAD", "NOT", "FULL")));
        Check.due("BAD", CellMuseum.BAD, -1);
        Check.due("NOT", CellMuseum.NOT, -2);
        Check.due("FULL", CellMuseum.FULL, -3);
    }

    private static void classesInside() {
        Class<?>[] inside = CellMuseum.class.getDeclaredClasses();
        Check.due("some twelve classes at most, there are " + (inside.length + 1), inside.length + 1 <= 12);
        for (Class<?> type : inside) {
            Check.due(type + " is static", Modifier.isStatic(type.getModifiers()));
            Check.due(type + " is not public", !Modifier.isPublic(type.getModifiers()));
            int fields = 0;
            for (Field field : type.getDeclaredFields()) {
                boolean isStatic = Modifier.isStatic(field.getModifiers());
                Check.due(field + " is no static state", !isStatic || Modifier.isFinal(field.getModifiers()));
                fields += isStatic ? 0 : 1;
            }
            Check.due(type + " has some twenty fields at most", fields <= 20);
        }
    }

    private static void words() throws IOException {
        String source = Files.readString(Path.of("src/main/java/CellMuseum.java"));
        String code = source.replaceAll("(?s)/\\*.*?\\*/", "").replaceAll("//[^\\n]*", "");
        for (String word : FORBIDDEN) {
            Matcher matcher = Pattern.compile(word).matcher(code);
            Check.due("no " + word, !matcher.find());
        }
        Matcher imports = Pattern.compile("import ([^;]*);").matcher(code);
        while (imports.find()) {
            Check.due("import " + imports.group(1), imports.group(1).equals("java.util.Arrays"));
        }
    }
}
