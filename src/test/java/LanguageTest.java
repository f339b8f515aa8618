import java.lang.reflect.Constructor;
import java.lang.reflect.Field;
import java.lang.reflect.Method;
import java.lang.reflect.Modifier;
import java.nio.charset.StandardCharsets;
import java.nio.file.Files;
import java.nio.file.Paths;
import java.util.Set;
import java.util.TreeSet;
import java.util.regex.Matcher;
import java.util.regex.Pattern;

/** The rules of LANGUAGE.md that a test can see: the face, the classes inside, the words that are ruled out. */
public final class LanguageTest {
    private static final String FACE = "arbiter ask asked ball beside bird book cites days eaves end ends fault feed game goes"
            + " image kite lease leaps look nest of person point set state strings swallow take text through undo"
            + " upright use voice way wide wish would";

    public static void main(String[] args) throws Exception {
        face();
        classesInside();
        source(Files.readString(Paths.get(args[0]), StandardCharsets.UTF_8));
        Due.close("LanguageTest");
    }

    private static void face() {
        Set<String> names = new TreeSet<>();
        for (Method m : SwallowsAir.class.getDeclaredMethods()) {
            boolean hidden = Modifier.isPrivate(m.getModifiers());
            Due.due("public or private: " + m, hidden || Modifier.isPublic(m.getModifiers()), true);
            if (!hidden) {
                names.add(m.getName());
            }
        }
        Set<String> face = new TreeSet<>(Set.of(FACE.split(" ")));
        Due.due("the face is " + names, names.equals(face), true);
        for (Field f : SwallowsAir.class.getDeclaredFields()) {
            boolean hidden = Modifier.isPrivate(f.getModifiers());
            Due.due("private: " + f, hidden || f.getName().equals("NONE"), true);
        }
        Constructor<?>[] constructors = SwallowsAir.class.getDeclaredConstructors();
        Due.due("one constructor", constructors.length, 1);
        Due.due("final", Modifier.isFinal(SwallowsAir.class.getModifiers()), true);
    }

    private static void classesInside() {
        Class<?>[] inside = SwallowsAir.class.getDeclaredClasses();
        Due.due("classes in all", inside.length + 1 <= 12, true);
        Set<String> face = Set.of(FACE.split(" "));
        for (Class<?> c : inside) {
            Due.due("static: " + c, Modifier.isStatic(c.getModifiers()), true);
            fewFields(c);
            for (Method m : c.getDeclaredMethods()) {
                Due.due("another name than the face's: " + m, !face.contains(m.getName()), true);
                Due.due("parameters: " + m, m.getParameterCount() <= 7, true);
            }
        }
        fewFields(SwallowsAir.class);
    }

    private static void fewFields(Class<?> c) {
        int fields = 0;
        for (Field f : c.getDeclaredFields()) {
            boolean fixed = Modifier.isStatic(f.getModifiers());
            fields += fixed ? 0 : 1;
            Due.due("static fields are final: " + f, !fixed || Modifier.isFinal(f.getModifiers()), true);
        }
        Due.due("fields of " + c + ": " + fields, fields <= 20, true);
    }

    private static void source(String text) {
        for (int i = 0; i < text.length(); i++) {
            if (text.charAt(i) > 126) {
                Due.due("sign at " + i, text.charAt(i), 'a');
            }
        }
        String code = text.replaceAll("(?s)/\\*.*?\\*/", "").replaceAll("\"[^\"\n]*\"", "\"\"");
        String ruledOut = "\\b(throw|throws|try|catch|synchronized|assert|import|package|lambda|double|float|hashCode"
                + "|toString|instanceof|Object|Exception|record|var|yield)\\b|->|::|//|Exact";
        Matcher m = Pattern.compile(ruledOut).matcher(code);
        while (m.find()) {
            Due.due("ruled out: " + m.group(), 1, 0);
        }
        Due.due("read", code.length() > 10000, true);
        methodsAreShort(code);
    }

    private static void methodsAreShort(String code) {
        int start = -1;
        String indent = "";
        String[] lines = code.split("\n");
        for (int i = 0; i < lines.length; i++) {
            Matcher head = Pattern.compile("^( {4}| {8})\\S.*\\) \\{$").matcher(lines[i]);
            if (head.find()) {
                start = i;
                indent = head.group(1);
            } else if (start >= 0 && lines[i].equals(indent + "}")) {
                Due.due("a short method: " + lines[start].trim(), i - start < 60, true);
                start = -1;
            }
        }
    }
}
