import java.io.IOException;
import java.lang.reflect.Constructor;
import java.lang.reflect.Field;
import java.lang.reflect.Method;
import java.lang.reflect.Modifier;
import java.nio.file.Files;
import java.nio.file.Path;
import java.util.Set;
import java.util.TreeSet;
import java.util.regex.Matcher;
import java.util.regex.Pattern;

/** The public face of the document, and those rules of LANGUAGE.md that can be looked up in the class or its text. */
public final class FaceTest {
    private static final Due due = new Due();
    private static final Set<String> FACE = Set.of("int feed(int, long)", "int cut(int)", "int read()", "int place()",
        "int told(int)", "int chunk(int, int)", "int octet(int, int)", "long entry(int, int)", "int find(int, long)",
        "long size(int, int)", "long sound(int, int)", "long front()", "int release()", "int colour(int)",
        "long scaled(long, int, int, int)", "int add(int)", "int mean(int, long, int)", "int change(int)",
        "int drop(int, long)", "int remove(int)", "int write()", "int out(int)", "int back()");

    public static void main(String[] args) throws IOException {
        constants();
        members();
        nested();
        text();
        due.end("FaceTest");
    }

    private static void constants() {
        due.is("BAD", BlorbRows.BAD, -1);
        due.is("NONE", BlorbRows.NONE, -2);
        due.is("TAKEN", BlorbRows.TAKEN, -3);
        due.is("FULL", BlorbRows.FULL, -4);
    }

    private static void members() {
        Class<?> face = BlorbRows.class;
        due.is("public and final", face.getModifiers(), Modifier.PUBLIC | Modifier.FINAL);
        Set<String> open = new TreeSet<>();
        Set<String> names = new TreeSet<>();
        for (Method m : face.getDeclaredMethods()) {
            if (!Modifier.isPrivate(m.getModifiers())) {
                due.isTrue(m + " is public and no static one", Modifier.isPublic(m.getModifiers()) && !Modifier.isStatic(m.getModifiers()));
                open.add(shown(m));
                names.add(m.getName());
            }
        }
        due.isTrue("the methods are " + open, open.equals(FACE));
        for (Method m : face.getDeclaredMethods()) {
            due.isTrue(m.getName() + " is the name of one alone", !Modifier.isPrivate(m.getModifiers()) || !names.contains(m.getName()));
        }
        Set<String> fields = new TreeSet<>();
        for (Field f : face.getDeclaredFields()) {
            if (!Modifier.isPrivate(f.getModifiers())) {
                fields.add(f.getName());
            }
        }
        due.isTrue("the constants are " + fields, fields.equals(Set.of("BAD", "NONE", "TAKEN", "FULL")));
        Constructor<?>[] made = face.getDeclaredConstructors();
        due.isTrue("one public constructor", made.length == 1 && Modifier.isPublic(made[0].getModifiers()) && made[0].getParameterCount() == 0);
    }

    private static String shown(Method m) {
        StringBuilder text = new StringBuilder(m.getReturnType() + " " + m.getName() + "(");
        for (int i = 0; i < m.getParameterCount(); i++) {
            text.append(i == 0 ? "" : ", ").append(m.getParameterTypes()[i]);
        }
        return text.append(")").toString();
    }

    private static void nested() {
        Class<?>[] inside = BlorbRows.class.getDeclaredClasses();
        due.isTrue("at most twelve classes", inside.length <= 11);
        for (Class<?> c : inside) {
            int how = c.getModifiers();
            due.isTrue(c + " is static and not public", Modifier.isStatic(how) && !Modifier.isPublic(how) && !Modifier.isProtected(how));
            fieldsOf(c);
            for (Method m : c.getDeclaredMethods()) {
                due.isTrue(m + " takes seven at most", m.getParameterCount() <= 7);
                due.isTrue(m + " bears no name of the face", !isInFace(m.getName()));
            }
        }
        fieldsOf(BlorbRows.class);
    }

    private static boolean isInFace(String name) {
        return FACE.stream().anyMatch(call -> call.contains(" " + name + "("));
    }

    private static void fieldsOf(Class<?> c) {
        int own = 0;
        for (Field f : c.getDeclaredFields()) {
            boolean isStatic = Modifier.isStatic(f.getModifiers());
            due.isTrue(f + " is final, if static", !isStatic || Modifier.isFinal(f.getModifiers()));
            own += isStatic ? 0 : 1;
        }
        due.isTrue(c + " has twenty fields at most", own <= 20);
    }

    private static void text() throws IOException {
        String source = Files.readString(Path.of("src/main/java/BlorbRows.java"));
        String code = source.replaceAll("(?s)/\\*.*?\\*/", "").replaceAll("//[^\n]*", "").replaceAll("'(\\\\.|[^'\\\\])'", "0");
        String[] words = {"import", "package", "throw", "throws", "try", "catch", "synchronized", "assert", "float",
            "double", "Object", "System\\.(?!arraycopy)\\w+", "Exact", "protected", "native", "volatile", "default\\s*->"};
        for (String word : words) {
            Matcher m = Pattern.compile("\\b" + word + "\\b").matcher(code);
            due.isTrue("no '" + word + "' in the class", !m.find());
        }
        due.isTrue("no lambda", !code.contains("->"));
        due.isTrue("no method reference", !code.contains("::"));
        int longest = longestMethod(source);
        due.isTrue("the longest method has " + longest + " lines", longest <= 60);
    }

    /** By the indents: a method begins and ends at four blanks, or at eight inside a class. */
    private static int longestMethod(String source) {
        int longest = 0;
        Matcher m = Pattern.compile("(?m)^( {4}| {8})[^ /*}].*\\) \\{\n(?:(?:\\1 .*)?\n)*?\\1\\}$").matcher(source);
        int methods = 0;
        while (m.find()) {
            methods++;
            longest = Math.max(longest, m.group().split("\n").length);
        }
        due.isTrue("methods are found", methods > 60);
        return longest;
    }
}
