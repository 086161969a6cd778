import java.io.IOException;
import java.lang.reflect.Method;
import java.lang.reflect.Modifier;
import java.nio.file.Files;
import java.nio.file.Path;
import java.util.ArrayList;
import java.util.HashMap;
import java.util.List;
import java.util.Map;
import java.util.Set;
import java.util.TreeSet;
import java.util.regex.Matcher;
import java.util.regex.Pattern;
import java.util.stream.Stream;

/** README.md: its examples give the answers that stand in them, and it names what is there. */
public final class ReadmeTests {
    private static final Pattern BLOCK = Pattern.compile("(?s)```java\n(.*?)```");
    private static final Pattern MADE = Pattern.compile("JumpGuard (\\w+) = new JumpGuard\\(\\);");
    private static final Pattern CALL = Pattern.compile("(\\w+)\\.(\\w+)\\(([^()]*)\\); +// (-?\\d+|true|false): .+");
    private static final int MOST_CALLS = 512;

    private static final Map<String, JumpGuard> objects = new HashMap<>();
    private static final Map<String, Integer> calls = new HashMap<>();
    private static final Set<String> called = new TreeSet<>();

    private static List<String> exampleLines(String readme) {
        List<String> lines = new ArrayList<>();
        Matcher block = BLOCK.matcher(readme);
        while (block.find()) {
            block.group(1).lines().filter(line -> !line.isBlank()).forEach(lines::add);
        }
        return lines;
    }

    private static void follow(String line) {
        Matcher made = MADE.matcher(line);
        Matcher call = CALL.matcher(line);
        if (made.matches()) {
            objects.put(made.group(1), new JumpGuard());
            calls.put(made.group(1), 0);
        } else if (call.matches() && objects.containsKey(call.group(1))) {
            String answer = answer(call.group(1), call.group(2), call.group(3));
            if (!answer.equals(call.group(4))) {
                Report.wrong(line + " answered " + answer);
            }
        } else {
            Report.wrong("neither a new object nor a call with its answer: " + line);
        }
    }

    private static String answer(String object, String name, String arguments) {
        if (calls.merge(object, 1, Integer::sum) > MOST_CALLS) {
            return "nothing that is promised";
        }
        String[] words = arguments.isEmpty() ? new String[0] : arguments.split(", ");
        for (Method m : JumpGuard.class.getDeclaredMethods()) {
            boolean open = Modifier.isPublic(m.getModifiers());
            if (open && m.getName().equals(name) && m.getParameterCount() == words.length) {
                called.add(name);
                return invoke(objects.get(object), m, words);
            }
        }
        return "nothing: there is no such method";
    }

    private static String invoke(JumpGuard object, Method m, String[] words) {
        Object[] values = new Object[words.length];
        for (int i = 0; i < words.length; i++) {
            boolean number = m.getParameterTypes()[i] == int.class;
            if (!words[i].matches(number ? "-?\\d+" : "true|false")) {
                return "nothing: " + words[i] + " does not fit";
            }
            values[i] = number ? (Object) Integer.valueOf(words[i]) : (Object) Boolean.valueOf(words[i]);
        }
        try {
            return String.valueOf(m.invoke(object, values));
        } catch (ReflectiveOperationException e) {
            return "nothing: " + e.getCause();
        }
    }

    private static void callsEveryMethod() {
        for (Method m : JumpGuard.class.getDeclaredMethods()) {
            if (Modifier.isPublic(m.getModifiers()) && !called.contains(m.getName())) {
                Report.wrong("no example calls " + m.getName());
            }
        }
    }

    private static Set<String> classesUnder(String folder) throws IOException {
        Set<String> names = new TreeSet<>();
        try (Stream<Path> files = Files.list(Path.of(folder))) {
            files.map(file -> file.getFileName().toString()).filter(name -> name.endsWith(".java"))
                .forEach(name -> names.add(name.substring(0, name.length() - ".java".length())));
        }
        return names;
    }

    private static void namesEveryTest(String readme) throws IOException {
        Set<String> there = classesUnder("src/test/java");
        for (Matcher named = Pattern.compile("`(\\w+Tests)`").matcher(readme); named.find();) {
            if (!there.contains(named.group(1))) {
                Report.wrong("there is no " + named.group(1));
            }
        }
        there.addAll(classesUnder("src/test/help"));
        for (String name : there) {
            if (!readme.contains("`" + name + "`")) {
                Report.wrong("it does not name " + name);
            }
        }
    }

    private static void namesPathsThatAreThere(String readme) {
        Pattern path = Pattern.compile("(?<![\\w./])(?:\\.\\./shared|src|\\.ci)/[\\w./]*\\w");
        for (Matcher named = path.matcher(readme); named.find();) {
            if (!Files.exists(Path.of(named.group()))) {
                Report.wrong("there is no " + named.group());
            }
        }
    }

    public static void main(String[] args) throws IOException {
        String readme = Files.readString(Path.of("README.md"));
        Report.sentence("README.md", "Behind each call stands its answer.");
        exampleLines(readme).forEach(ReadmeTests::follow);
        Report.sentence("README.md", "this file names every method and every test");
        callsEveryMethod();
        namesEveryTest(readme);
        Report.sentence("README.md", "the paths in it");
        namesPathsThatAreThere(readme);
        Report.end();
    }
}
