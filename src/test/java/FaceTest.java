import java.io.IOException;
import java.lang.reflect.Field;
import java.lang.reflect.Member;
import java.lang.reflect.Method;
import java.lang.reflect.Modifier;
import java.nio.file.Files;
import java.nio.file.Path;
import java.util.Arrays;
import java.util.HashSet;
import java.util.Set;
import java.util.TreeSet;
import java.util.regex.Pattern;
import java.util.stream.Collectors;

/** The public face is the document's and no more, and the source keeps to what LANGUAGE.md leaves. */
public final class FaceTest {
    private static final String SOURCE = "src/main/java/GossipGate.java";
    private static final String[] METHODS = {
        "int town 4", "int ofGate 2", "int ofStory 2", "int harmless 1", "int rate 2", "int fresh 2", "int duty 4",
        "int passages 5", "int least 3", "int free 1", "int worth 3", "int reading 2", "int back 1", "int sizes 5",
        "int persons 5", "int kinds 5", "int limits 4", "long odds 4", "int sheet 3", "int lose 1", "int put 3",
        "long cell 3", "int copy 5", "int tell 1", "int knock 1", "int as 2", "int trace 0", "int fault 0", "int many 1"};
    private static final String[] CONSTANTS = {
        "int UNKNOWN", "int OUTSIDE", "int STATE", "int FULL", "int NONE", "long LOST"};
    private static final String[] LEFT_OUT = {
        "\\bthrow\\b", "\\btry\\b", "\\bcatch\\b", "\\bsynchronized\\b", "\\bassert\\b", "->", "::", "\\bExact\\b",
        "@", "\\bpackage\\b", "\\bprotected\\b", "static \\{"};

    private FaceTest() {
    }

    public static void main(String[] args) throws IOException {
        face();
        inside();
        source();
        Check.end();
    }

    private static void same(String what, Set<String> got, String[] want) {
        Set<String> due = new TreeSet<>(Arrays.asList(want));
        if (!got.equals(due)) {
            System.out.println(what + ": " + got + ", due is " + due);
        }
        Check.due(what, got.equals(due) ? 1 : 0, 1);
    }

    private static void face() {
        Class<?> face = GossipGate.class;
        Check.due("public and final", face.getModifiers(), Modifier.PUBLIC | Modifier.FINAL);
        Check.due("constructors", face.getDeclaredConstructors().length, 1);
        Check.due("its parameters", face.getConstructors()[0].getParameterCount(), 0);
        same("methods", Arrays.stream(face.getDeclaredMethods()).filter(FaceTest::isSeen)
            .map(m -> m.getReturnType() + " " + m.getName() + " " + m.getParameterCount())
            .collect(Collectors.toCollection(TreeSet::new)), METHODS);
        same("constants", Arrays.stream(face.getDeclaredFields()).filter(FaceTest::isSeen)
            .map(f -> f.getType() + " " + f.getName())
            .collect(Collectors.toCollection(TreeSet::new)), CONSTANTS);
        for (Method method : face.getMethods()) {
            boolean ints = Arrays.stream(method.getParameterTypes()).allMatch(t -> t == int.class);
            Check.due("parameters of " + method, ints || method.getDeclaringClass() == Object.class ? 1 : 0, 1);
        }
    }

    private static boolean isSeen(Member member) {
        return !Modifier.isPrivate(member.getModifiers()) && !member.isSynthetic();
    }

    private static void inside() {
        Set<String> names = new HashSet<>();
        for (String method : METHODS) {
            names.add(method.split(" ")[1]);
        }
        Class<?>[] classes = GossipGate.class.getDeclaredClasses();
        Check.due("some twelve classes", classes.length <= 12 ? 1 : 0, 1);
        for (Class<?> one : classes) {
            Check.due(one + " is static", Modifier.isStatic(one.getModifiers()) ? 1 : 0, 1);
            for (Method method : one.getDeclaredMethods()) {
                Check.due(method + " has a name of its own", names.contains(method.getName()) ? 1 : 0, 0);
                Check.due(method + " takes seven at most", method.getParameterCount() <= 7 ? 1 : 0, 1);
            }
            noState(one);
        }
        for (Method method : GossipGate.class.getDeclaredMethods()) {
            boolean isHidden = !isSeen(method);
            Check.due(method + " has a name of its own", isHidden && names.contains(method.getName()) ? 1 : 0, 0);
        }
        noState(GossipGate.class);
    }

    private static void noState(Class<?> one) {
        for (Field field : one.getDeclaredFields()) {
            boolean isState = Modifier.isStatic(field.getModifiers()) && !Modifier.isFinal(field.getModifiers());
            Check.due(field + " is final if static", isState ? 1 : 0, 0);
        }
    }

    private static void source() throws IOException {
        String text = Files.readString(Path.of(SOURCE)).replaceAll("(?s)/\\*.*?\\*/", "").replaceAll("//.*", "");
        for (String word : LEFT_OUT) {
            Check.due("uses of " + word, Pattern.compile(word).matcher(text).results().count(), 0);
        }
        Check.due("imports", Pattern.compile("\\bimport\\b").matcher(text).results().count(), 1);
    }
}
