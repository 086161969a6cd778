import java.io.IOException;
import java.lang.reflect.Constructor;
import java.lang.reflect.Field;
import java.lang.reflect.Method;
import java.lang.reflect.Modifier;
import java.nio.file.Files;
import java.nio.file.Path;
import java.util.Set;
import java.util.TreeSet;
import java.util.regex.Pattern;

/** The public face of the document, and the rules of LANGUAGE.md that a test can see. */
public final class FaceTests {
    private static final Set<String> FACE = Set.of(
        "int add(int,int,int)", "boolean allow(int,int)", "int protect()", "int source(int,int)",
        "int guarded(int,int)", "int place(int)", "int label(int)", "boolean start(boolean)", "int run(int)",
        "int state()", "boolean overwrite(int,int)", "int memory(int)", "int register(int)", "int pc()",
        "int shows()", "int shown(int)");
    private static final String[] FORBIDDEN = {
        "\\b(throw|throws|try|catch|finally|synchronized|assert|package)\\b", "::", "Exact\\b",
        "\\b(Random|Thread|Runtime|hashCode)\\b", "\\bstatic\\s*\\{", "\\bSystem\\b(?!\\.arraycopy\\b)"};
    private static final String ALLOWED_IMPORT = "import java\\.util\\.(Arrays|ArrayList|List|Iterator);";
    private static final String SWITCH_ARROW = "(\\bcase\\b[^;:{}]*?|\\bdefault\\s*)->";
    private static final int MOST_PARAMETERS = 7;
    private static int wrong = 0;

    private static void need(boolean fine, String what) {
        if (!fine) {
            wrong++;
            System.out.println(what);
        }
    }

    private static String formOf(Method m) {
        StringBuilder form = new StringBuilder(m.getReturnType().getName() + " " + m.getName() + "(");
        for (Class<?> p : m.getParameterTypes()) {
            form.append(form.charAt(form.length() - 1) == '(' ? "" : ",").append(p.getName());
        }
        return form.append(')').toString();
    }

    private static void checkMethods() {
        Set<String> open = new TreeSet<>();
        Set<String> openNames = new TreeSet<>();
        for (Method m : JumpGuard.class.getDeclaredMethods()) {
            if (!m.isSynthetic() && !Modifier.isPrivate(m.getModifiers())) {
                need(Modifier.isPublic(m.getModifiers()) && !Modifier.isStatic(m.getModifiers()), "not public: " + m);
                open.add(formOf(m));
                openNames.add(m.getName());
            }
        }
        need(open.equals(FACE), "the face is " + open + ", due is " + new TreeSet<>(FACE));
        for (Method m : JumpGuard.class.getDeclaredMethods()) {
            boolean closed = Modifier.isPrivate(m.getModifiers());
            need(!closed || !openNames.contains(m.getName()), "a private method with a public name: " + m);
        }
    }

    private static void checkMembers() {
        int modifiers = JumpGuard.class.getModifiers();
        need(Modifier.isPublic(modifiers) && Modifier.isFinal(modifiers), "the class is not public and final");
        Constructor<?>[] makers = JumpGuard.class.getDeclaredConstructors();
        need(makers.length == 1 && makers[0].getParameterCount() == 0 && Modifier.isPublic(makers[0].getModifiers()),
            "the constructor is not the one of the document");
        for (Field f : JumpGuard.class.getDeclaredFields()) {
            need(f.isSynthetic() || Modifier.isPrivate(f.getModifiers()), "a field that is not private: " + f);
        }
        checkInside(JumpGuard.class);
        for (Class<?> c : JumpGuard.class.getDeclaredClasses()) {
            need(Modifier.isStatic(c.getModifiers()), "not static: " + c);
            need(!Modifier.isPublic(c.getModifiers()) && !Modifier.isProtected(c.getModifiers()), "not closed: " + c);
            checkInside(c);
        }
    }

    private static void checkInside(Class<?> c) {
        for (Field f : c.getDeclaredFields()) {
            need(Modifier.isFinal(f.getModifiers()) || !Modifier.isStatic(f.getModifiers()), "static state: " + f);
        }
        for (Method m : c.getDeclaredMethods()) {
            need(m.getParameterCount() <= MOST_PARAMETERS, "too many parameters: " + m);
        }
    }

    private static void checkWords() throws IOException {
        String text = Files.readString(Path.of("src/main/java/JumpGuard.java"));
        String code = text.replaceAll("(?s)/\\*.*?\\*/", " ").replaceAll("//[^\n]*", " ");
        for (String form : FORBIDDEN) {
            need(!Pattern.compile(form).matcher(code).find(), "the program has what matches " + form);
        }
        String others = code.replaceAll(ALLOWED_IMPORT, " ");
        boolean more = Pattern.compile("\\bimport\\b|\\bjava\\.").matcher(others).find();
        need(!more, "the program imports what the rules do not list");
        need(!code.replaceAll(SWITCH_ARROW, " ").contains("->"), "the program has a lambda");
    }

    public static void main(String[] args) throws IOException {
        checkMethods();
        checkMembers();
        checkWords();
        System.out.println(wrong == 0 ? "the face is as due" : wrong + " faults");
        if (wrong != 0) {
            System.exit(1);
        }
    }
}
