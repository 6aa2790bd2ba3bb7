import java.io.IOException;
import java.lang.reflect.Constructor;
import java.lang.reflect.Field;
import java.lang.reflect.Method;
import java.lang.reflect.Modifier;
import java.nio.file.Files;
import java.nio.file.Path;
import java.util.ArrayList;
import java.util.Arrays;
import java.util.List;
import java.util.Set;
import java.util.TreeSet;
import java.util.regex.Matcher;
import java.util.regex.Pattern;

/** The face is the document's and nothing else; the source keeps to the rules of LANGUAGE.md that a text shows. */
public final class FaceTest {
    private static final Checks CHECKS = new Checks();
    private static final Path SOURCE = Path.of("src/main/java/TransactionalFlash.java");

    private static final String N = "NoSuchElementException";
    private static final String A = "IllegalArgumentException";
    private static final String S = "IllegalStateException";
    private static final String[] FACE = {
        "int feed(int,int,int,int,int) " + S, "int format(int) " + A + " " + S, "int errorCode()",
        "int errorPosition()", "int begin() " + S, "int write(int,int,int) " + N + " " + A + " " + S,
        "int read(int,int) " + N + " " + S, "int commit(int) " + N + " " + S, "int abort(int) " + N + " " + S,
        "int openReader() " + S, "int readBy(int,int) " + N, "int closeReader(int) " + N, "int checkpoint() " + S,
        "boolean isOn()", "int arm(int) " + A, "int powerOff() " + S, "int recover() " + S, "int logicalPages()",
        "int blocks()", "int pagesPerBlock()", "int version(int) " + N, "int place(int) " + N,
        "int lockedBy(int) " + N, "int transactions()", "int state(int) " + N, "int locks(int) " + N,
        "int readers()", "int activeBlock()", "int freeBlocks()", "int validPages()",
        "int block(int,int) " + N + " " + A, "int flashPage(int,int) " + N + " " + A, "boolean isValid(int) " + N,
        "int programs()", "int erases()", "int copies()", "int writes()", "int wearGap()", "int lastCheckpoint()",
        "int commits()", "int losses()", "int victim()"};

    // Words behind which stands what LANGUAGE.md leaves out; each is looked for as a whole.
    private static final String[] FORBIDDEN = {"->", "::", "\\btry\\b", "\\bcatch\\b", "\\bfinally\\b", "\\bassert\\b",
        "\\bsynchronized\\b", "\\bimport (?!java\\.util\\.NoSuchElementException;)", "\\bpackage\\b", "System\\.",
        "\\bRandom\\b", "Exact\\(", "\\bString\\.format\\b", "\\bstatic \\{", "\\bvolatile\\b", "\\bnative\\b"};

    public static void main(String[] args) throws IOException {
        face();
        fields();
        String source = Files.readString(SOURCE);
        for (String word : FORBIDDEN) {
            CHECKS.same("places with " + word, 0, Pattern.compile(word).matcher(source).results().count());
        }
        methodLengths(source);
        CHECKS.end("FaceTest");
    }

    private static void face() {
        Set<String> due = new TreeSet<>(Arrays.asList(FACE));
        Set<String> got = new TreeSet<>();
        Set<String> names = new TreeSet<>();
        for (Method method : TransactionalFlash.class.getDeclaredMethods()) {
            if (!Modifier.isPrivate(method.getModifiers())) {
                got.add(signature(method));
                names.add(method.getName());
                CHECKS.same(method + " is public and not static", Modifier.PUBLIC, method.getModifiers());
            }
        }
        for (String line : due) {
            CHECKS.same("face has " + line, 1, Checks.bit(got.contains(line)));
        }
        for (String line : got) {
            CHECKS.same("document has " + line, 1, Checks.bit(due.contains(line)));
        }
        for (Class<?> inside : classes()) {
            for (Method method : inside.getDeclaredMethods()) {
                boolean borrowed = Modifier.isPrivate(method.getModifiers()) || inside != TransactionalFlash.class;
                CHECKS.same(method + " bears a name of the face", 0,
                        Checks.bit(borrowed && names.contains(method.getName())));
                CHECKS.same("parameters of " + method + " are at most 7", 1,
                        Checks.bit(method.getParameterCount() <= 7));
            }
        }
        Constructor<?>[] constructors = TransactionalFlash.class.getDeclaredConstructors();
        CHECKS.same("constructors", 1, constructors.length);
        CHECKS.same("its parameters", 0, constructors[0].getParameterCount());
        CHECKS.same("it is public", Modifier.PUBLIC, constructors[0].getModifiers());
        CHECKS.same("the class is public and final", Modifier.PUBLIC | Modifier.FINAL,
                TransactionalFlash.class.getModifiers());
    }

    private static String signature(Method method) {
        StringBuilder text = new StringBuilder(method.getReturnType().getSimpleName());
        text.append(' ').append(method.getName()).append('(');
        for (int i = 0; i < method.getParameterCount(); i++) {
            text.append(i == 0 ? "" : ",").append(method.getParameterTypes()[i].getSimpleName());
        }
        text.append(')');
        for (Class<?> thrown : method.getExceptionTypes()) {
            text.append(' ').append(thrown.getSimpleName());
        }
        return text.toString();
    }

    private static List<Class<?>> classes() {
        List<Class<?>> all = new ArrayList<>();
        all.add(TransactionalFlash.class);
        all.addAll(Arrays.asList(TransactionalFlash.class.getDeclaredClasses()));
        return all;
    }

    private static void fields() {
        CHECKS.same("at most 12 classes", 1, Checks.bit(classes().size() <= 12));
        for (Class<?> inside : classes()) {
            int count = 0;
            for (Field field : inside.getDeclaredFields()) {
                boolean isStatic = Modifier.isStatic(field.getModifiers());
                count += isStatic ? 0 : 1;
                CHECKS.same(field + " is no static state", 1,
                        Checks.bit(!isStatic || Modifier.isFinal(field.getModifiers())));
                CHECKS.same(field + " of the face is private", 1, Checks.bit(inside != TransactionalFlash.class
                        || Modifier.isPrivate(field.getModifiers())));
            }
            CHECKS.same("at most 20 fields in " + inside, 1, Checks.bit(count <= 20));
        }
    }

    private static void methodLengths(String source) {
        Matcher methods = Pattern.compile("(?ms)^( {4}| {8})(?! )[^\n;=]*\\([^;]*?\\{\n(.*?)^\\1\\}").matcher(source);
        int found = 0;
        while (methods.find()) {
            found++;
            long lines = methods.group().lines().count();
            CHECKS.same("a method of " + lines + " lines is short: " + methods.group().strip().lines().findFirst().get(),
                    1, Checks.bit(lines <= 60));
        }
        CHECKS.same("methods are found", 1, Checks.bit(found > FACE.length));
    }
}
