import java.io.IOException;
import java.lang.reflect.Field;
import java.lang.reflect.Member;
import java.lang.reflect.Method;
import java.lang.reflect.Modifier;
import java.nio.file.Files;
import java.nio.file.Path;
import java.util.Arrays;
import java.util.HashSet;
import java.util.Set;
import java.util.TreeSet;
import java.util.regex.MatchResult;
import java.util.regex.Pattern;
import java.util.stream.Collectors;

/** The public face is the document's and no more, and the source keeps to what LANGUAGE.md leaves. */
public final class FaceTest {
    private static final String SOURCE = "src/main/java/GossipGate.java";
    private static final String DOCUMENT = "../shared/DOC.md";
    private static final String[] METHODS = {
        "int town 4", "int ofGate 2", "int ofStory 2", "int harmless 1", "int rate 2", "int fresh 2", "int duty 4",
        "int passages 5", "int least 3", "int free 1", "int worth 3", "int reading 2", "int back 1", "int sizes 5",
        "int persons 5", "int kinds 5", "int limits 4", "long odds 4", "int sheet 3", "int lose 1", "int put 3",
        "long cell 3", "int copy 5", "int tell 1", "int knock 1", "int as 2", "int trace 0", "int fault 0", "int many 1"};
    private static final String[] CONSTANTS = {
        "int UNKNOWN", "int OUTSIDE", "int STATE", "int FULL", "int NONE", "long LOST"};
    private static final String[] LEFT_OUT = {
        "\\bthrow\\b", "\\btry\\b", "\\bcatch\\b", "\\bsynchronized\\b", "\\bassert\\b", "->", "::", "Exact\\b",
        "@", "\\bpackage\\b", "\\bprotected\\b", "static \\{", "\\b(double|float)\\b", "\\b(equals|hashCode|toString)\\b"};
    private static final String[] LIBRARY = {"Arrays.fill", "System.arraycopy", "Math.max", "Math.min", "Long.MIN_VALUE"};
    private static final int MOST_LINES = 60;

    private FaceTest() {
    }

    public static void main(String[] args) throws IOException {
        face();
        inside();
        String source = Files.readString(Path.of(SOURCE));
        asTheDocumentWritesIt(source);
        leftOut(withoutComments(source));
        library(withoutComments(source));
        shortMethods(source);
        Check.end();
    }

    private static void same(String what, Set<String> got, String[] want) {
        Set<String> due = new TreeSet<>(Arrays.asList(want));
        if (!got.equals(due)) {
            System.out.println(what + ": " + got + ", due is " + due);
        }
        Check.due(what, got.equals(due) ? 1 : 0, 1);
    }

    private static void face() {
        Class<?> face = GossipGate.class;
        Check.due("public and final", face.getModifiers(), Modifier.PUBLIC | Modifier.FINAL);
        Check.due("constructors", face.getDeclaredConstructors().length, 1);
        Check.due("its parameters", face.getConstructors()[0].getParameterCount(), 0);
        same("methods", Arrays.stream(face.getDeclaredMethods()).filter(FaceTest::isSeen)
            .map(m -> m.getReturnType() + " " + m.getName() + " " + m.getParameterCount())
            .collect(Collectors.toCollection(TreeSet::new)), METHODS);
        same("constants", Arrays.stream(face.getDeclaredFields()).filter(FaceTest::isSeen)
            .map(f -> f.getType() + " " + f.getName())
            .collect(Collectors.toCollection(TreeSet::new)), CONSTANTS);
        for (Method method : face.getMethods()) {
            boolean ints = Arrays.stream(method.getParameterTypes()).allMatch(t -> t == int.class);
            Check.due("parameters of " + method, ints || method.getDeclaringClass() == Object.class ? 1 : 0, 1);
        }
    }

    private static boolean isSeen(Member member) {
        return !Modifier.isPrivate(member.getModifiers()) && !member.isSynthetic();
    }

    private static void inside() {
        Set<String> names = new HashSet<>();
        for (String method : METHODS) {
            names.add(method.split(" ")[1]);
        }
        Class<?>[] classes = GossipGate.class.getDeclaredClasses();
        Check.due("some twelve classes", classes.length <= 12 ? 1 : 0, 1);
        for (Class<?> one : classes) {
            Check.due(one + " is static", Modifier.isStatic(one.getModifiers()) ? 1 : 0, 1);
            for (Method method : one.getDeclaredMethods()) {
                Check.due(method + " has a name of its own", names.contains(method.getName()) ? 1 : 0, 0);
                Check.due(method + " takes seven at most", method.getParameterCount() <= 7 ? 1 : 0, 1);
            }
            noState(one);
        }
        for (Method method : GossipGate.class.getDeclaredMethods()) {
            boolean isHidden = !isSeen(method);
            Check.due(method + " has a name of its own", isHidden && names.contains(method.getName()) ? 1 : 0, 0);
        }
        noState(GossipGate.class);
    }

    private static void noState(Class<?> one) {
        for (Field field : one.getDeclaredFields()) {
            boolean isState = Modifier.isStatic(field.getModifiers()) && !Modifier.isFinal(field.getModifiers());
            Check.due(field + " is final if static", isState ? 1 : 0, 0);
        }
    }

    /** Word by word, with the names of parameters and the values of constants. */
    private static void asTheDocumentWritesIt(String source) throws IOException {
        String document = Files.readString(Path.of(DOCUMENT));
        int begin = document.indexOf("```java\n");
        String face = document.substring(begin, document.indexOf("```", begin + 3));
        long lines = 0;
        for (String line : face.split("\n")) {
            if (line.endsWith(";")) {
                lines++;
                String due = line.contains("=") ? line : line.replace(";", " {");
                Check.due("the source has" + due, source.contains("\n" + due + "\n") ? 1 : 0, 1);
            }
        }
        // Two lines of constants, and the constructor.
        Check.due("lines of the face", lines, METHODS.length + 3);
    }

    private static String withoutComments(String source) {
        return source.replaceAll("(?s)/\\*.*?\\*/", "").replaceAll("//.*", "");
    }

    private static void leftOut(String code) {
        for (String word : LEFT_OUT) {
            Check.due("uses of " + word, Pattern.compile(word).matcher(code).results().count(), 0);
        }
        Check.due("imports", Pattern.compile("\\bimport\\b").matcher(code).results().count(), 1);
    }

    /** What begins with a capital and has a dot behind it is of the library, or one of the classes inside. */
    private static void library(String code) {
        Set<String> own = Arrays.stream(GossipGate.class.getDeclaredClasses())
            .map(Class::getSimpleName).collect(Collectors.toSet());
        Set<String> used = Pattern.compile("\\b([A-Z]\\w*)\\.\\w+").matcher(code.replaceAll("(?m)^import.*", "")).results()
            .filter(use -> !own.contains(use.group(1))).map(use -> use.group())
            .collect(Collectors.toCollection(TreeSet::new));
        same("uses of the library", used, LIBRARY);
    }

    /** A method's first line ends with a brace at an indent of 4 or 8, and so does its last begin. */
    private static void shortMethods(String source) {
        Pattern method = Pattern.compile("(?ms)^( {4}| {8})(?! )[^\\n]*\\) \\{$(.*?)^\\1\\}$");
        long methods = 0;
        for (MatchResult found : method.matcher(source).results().toList()) {
            methods++;
            long lines = found.group().lines().count();
            Check.due("lines of" + found.group().lines().findFirst().orElse(""), lines <= MOST_LINES ? 1 : 0, 1);
        }
        Check.due("methods are found", methods > METHODS.length ? 1 : 0, 1);
    }
}
