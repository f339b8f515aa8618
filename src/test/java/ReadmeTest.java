import java.lang.reflect.Method;
import java.lang.reflect.Modifier;
import java.nio.charset.StandardCharsets;
import java.nio.file.Files;
import java.nio.file.Path;
import java.nio.file.Paths;
import java.util.HashMap;
import java.util.HashSet;
import java.util.Map;
import java.util.Set;
import java.util.regex.Matcher;
import java.util.regex.Pattern;

/** Runs the examples of README.md, line by line, and looks whether it names every call of the face. */
public final class ReadmeTest {
    private static final Pattern CALL =
            Pattern.compile("^(?:int (\\w+) = )?air\\.(\\w+)\\((.*)\\);\\s+// (-?\\d+|true|false)\\b.*$");
    private static final Pattern TELL =
            Pattern.compile("^tell\\(air, (\\d), \"([^\"]*)\"\\);\\s+// (-?\\d+)\\b.*$");

    private static final Map<String, Method> METHODS = new HashMap<>();
    private static final Map<String, Integer> NAMED = new HashMap<>();
    private static SwallowsAir air;

    public static void main(String[] args) throws Exception {
        for (Method m : SwallowsAir.class.getDeclaredMethods()) {
            if (Modifier.isPublic(m.getModifiers())) {
                METHODS.put(m.getName(), m);
            }
        }
        Path root = Paths.get(args[0]).toAbsolutePath().getParent().getParent().getParent().getParent();
        String readme = Files.readString(root.resolve("README.md"), StandardCharsets.UTF_8);
        int examples = 0;
        for (String line : readme.split("\n")) {
            examples += runs(line) ? 1 : 0;
        }
        int answers = readme.split("(?m)^.*;\\s+// ", -1).length - 1;
        Due.due("lines with an answer that were run", examples, answers);
        Due.due("there are some", examples >= 20, true);
        namesAll(readme);
        Due.close("ReadmeTest");
    }

    private static boolean runs(String line) throws Exception {
        if (line.equals("SwallowsAir air = new SwallowsAir();")) {
            air = new SwallowsAir();
            return false;
        }
        Matcher told = TELL.matcher(line);
        if (told.matches()) {
            int got = Due.tell(air, Integer.parseInt(told.group(1)), told.group(2));
            Due.due("README: " + line, got, Integer.parseInt(told.group(3)));
            return true;
        }
        Matcher call = CALL.matcher(line);
        if (!call.matches()) {
            return false;
        }
        int got = answer(METHODS.get(call.group(2)), call.group(3));
        Due.due("README: " + line, got, number(call.group(4)));
        if (call.group(1) != null) {
            NAMED.put(call.group(1), got);
        }
        return true;
    }

    private static int answer(Method m, String list) throws Exception {
        String[] words = list.isEmpty() ? new String[0] : list.split(", ");
        Object[] values = new Object[words.length];
        for (int i = 0; i < words.length; i++) {
            boolean asked = m.getParameterTypes()[i] == boolean.class;
            values[i] = asked ? (Object) words[i].equals("true") : (Object) number(words[i]);
        }
        return number(String.valueOf(m.invoke(air, values)));
    }

    private static int number(String word) {
        if (NAMED.containsKey(word)) {
            return NAMED.get(word);
        }
        return word.equals("true") ? 1 : word.equals("false") ? 0 : Integer.parseInt(word);
    }

    private static void namesAll(String readme) {
        Set<String> named = new HashSet<>();
        Matcher m = Pattern.compile("`(\\w+)").matcher(readme.substring(readme.indexOf("### The calls")));
        while (m.find()) {
            named.add(m.group(1));
        }
        for (String name : METHODS.keySet()) {
            Due.due("README names " + name, named.contains(name), true);
        }
    }
}
