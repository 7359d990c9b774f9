import java.lang.reflect.Constructor;
import java.lang.reflect.Field;
import java.lang.reflect.Method;
import java.lang.reflect.Modifier;
import java.nio.file.Files;
import java.nio.file.Path;
import java.util.Arrays;
import java.util.List;
import java.util.TreeSet;
import java.util.stream.Collectors;

/** The public face is the document's, no more and no less; and the rules of LANGUAGE.md that can be looked up. */
public final class FaceTest {
    private static final Check check = new Check("FaceTest");
    private static final Path SOURCE = Path.of("src/main/java/Wattgovern.java");
    private static final String I = " IndexOutOfBoundsException";
    private static final String A = " IllegalArgumentException";
    private static final String S = " IllegalStateException";
    private static final String U = " UnsupportedOperationException";
    private static final String N = " NoSuchElementException";
    private static final List<String> FACE = List.of(
            "int core(int,char)" + I + A + S, "int thread(int,int,int)" + I + A + S, "int feed(int,int)" + I + A + S,
            "int move(int,int)" + I + U, "char governor(int,char,int)" + I + A, "int work(int)" + I,
            "boolean isCold(int)" + I, "int pass(int)" + A + S, "int speed(int)" + I, "int wanted(int)" + I,
            "char clamp(int)" + I, "char sleep(int)" + I, "boolean isBusy(int)" + I, "int need(int,int)" + I + A,
            "int volts(int)" + I, "int heat(int)" + I, "int degrees(int)" + I, "int caseDegrees()",
            "int sensor(int)" + I + N, "boolean lose(int,boolean)" + I, "boolean isTripped(int)" + I, "int fan()",
            "boolean killFan(boolean)", "int heatUp(int,int)" + I + A + S, "int wall(int)" + A, "int battery()",
            "int purse()", "int taken()", "int owed()", "int request(int,int)" + A + U, "int holds()", "char why()",
            "boolean drop()", "int age(int)" + I, "boolean isRetired(int)" + I, "int wear(int,int)" + I + A + S,
            "long account(char)" + A, "long checksum()", "float busyShare()" + N, "double meanDegrees()" + N,
            "boolean isSound()");

    public static void main(String[] args) throws Exception {
        theFaceIsExact();
        if (Doc.isThere()) {
            theDocumentHasThisFace();
            theCallsStandInTheirGroups();
        }
        nothingElseShows();
        classesInsideAreSmall();
        theSourceKeepsToItsLanguage();
        methodsAreShort();
        check.finish();
    }

    private static String told(Method method) {
        String types = Arrays.stream(method.getParameterTypes()).map(Class::getSimpleName).collect(Collectors.joining(","));
        String thrown = Arrays.stream(method.getExceptionTypes()).map(t -> " " + t.getSimpleName()).collect(Collectors.joining());
        return method.getReturnType().getSimpleName() + " " + method.getName() + "(" + types + ")" + thrown;
    }

    private static void theFaceIsExact() {
        TreeSet<String> got = new TreeSet<>();
        for (Method method : Wattgovern.class.getDeclaredMethods()) {
            if (!Modifier.isPrivate(method.getModifiers())) {
                check.yes(method.getName() + " is public and no more", method.getModifiers() == Modifier.PUBLIC);
                got.add(told(method));
            }
        }
        check.same("the face", new TreeSet<>(FACE), got);
        check.same("41 methods", 41, got.size());
        check.yes("public and final", Wattgovern.class.getModifiers() == (Modifier.PUBLIC | Modifier.FINAL));
        Constructor<?>[] constructors = Wattgovern.class.getDeclaredConstructors();
        check.same("one constructor", 1, constructors.length);
        check.yes("it is public", constructors[0].getModifiers() == Modifier.PUBLIC);
        check.same("without parameters", 0, constructors[0].getParameterCount());
    }

    /** Reads each method of the document's face as told() would tell it. */
    private static void theDocumentHasThisFace() {
        TreeSet<String> due = new TreeSet<>();
        int constructors = 0;
        for (String line : Doc.part("```java", "```").split("\n")) {
            String plain = line.trim();
            if (plain.equals("public Wattgovern();")) {
                constructors++;
            } else if (plain.endsWith(";") && plain.startsWith("public ")) {
                String types = plain.substring(plain.indexOf('(') + 1, plain.indexOf(')')).replaceAll(" \\w+(?=,|$)", "");
                String thrown = plain.substring(plain.indexOf(')') + 1, plain.length() - 1).replace(" throws", "");
                due.add(plain.substring(7, plain.indexOf('(') + 1) + types.replace(" ", "") + ")" + thrown.replace(",", ""));
            }
        }
        check.same("the document's face", due, new TreeSet<>(FACE));
        check.same("its constructor", 1, constructors);
        check.yes("the class", Doc.part("```java", "```").contains("public final class Wattgovern {"));
    }

    /** What the document lets the interface say ahead of some calls stands as a comment ahead of the first of them. */
    private static void theCallsStandInTheirGroups() throws Exception {
        String source = Files.readString(SOURCE);
        int calls = 0;
        for (String line : Doc.part("<p>Examples", "## Promise 1:").split("\n")) {
            if (line.startsWith("Ahead of the calls ")) {
                String[] names = line.substring(0, line.indexOf(" the interface says")).split("`");
                String says = line.substring(line.indexOf(": ") + 2, line.length() - 1);
                int at = source.indexOf("// ---- " + says + " ----");
                check.yes("the source says " + says, at > 0);
                for (int i = 1; i < names.length; i += 2) {
                    int next = source.indexOf(" " + names[i] + "(", at);
                    check.yes(names[i] + " stands behind it", next > at && source.lastIndexOf("// ----", next) == at);
                    calls++;
                }
            }
        }
        check.same("all calls have a group", FACE.size(), calls);
    }

    private static void nothingElseShows() {
        List<String> names = FACE.stream().map(f -> f.substring(f.indexOf(' ') + 1, f.indexOf('('))).collect(Collectors.toList());
        for (Field field : Wattgovern.class.getDeclaredFields()) {
            check.yes(field.getName() + " is private", Modifier.isPrivate(field.getModifiers()));
        }
        for (Class<?> inside : Wattgovern.class.getDeclaredClasses()) {
            check.yes(inside.getName() + " is static, not public", Modifier.isStatic(inside.getModifiers())
                    && !Modifier.isPublic(inside.getModifiers()) && !Modifier.isProtected(inside.getModifiers()));
        }
        for (Class<?> each : allClasses()) {
            for (Method method : each.getDeclaredMethods()) {
                boolean ofTheFace = each == Wattgovern.class && Modifier.isPublic(method.getModifiers());
                check.yes(method.getName() + " has a name of its own", ofTheFace || !names.contains(method.getName()));
            }
        }
    }

    private static List<Class<?>> allClasses() {
        List<Class<?>> all = new java.util.ArrayList<>(List.of(Wattgovern.class.getDeclaredClasses()));
        all.add(Wattgovern.class);
        return all;
    }

    private static void classesInsideAreSmall() {
        check.yes("some twelve classes at most", allClasses().size() <= 12);
        for (Class<?> each : allClasses()) {
            int fields = 0;
            for (Field field : each.getDeclaredFields()) {
                boolean fixed = Modifier.isStatic(field.getModifiers());
                check.yes(field.getName() + " is a constant or no static", !fixed || Modifier.isFinal(field.getModifiers()));
                fields += fixed ? 0 : 1;
            }
            check.yes(each.getName() + " has some twenty fields at most", fields <= 20);
            for (Method method : each.getDeclaredMethods()) {
                check.yes(method.getName() + " takes seven at most", method.getParameterCount() <= 7);
            }
        }
    }

    private static void theSourceKeepsToItsLanguage() throws Exception {
        String source = Files.readString(SOURCE);
        check.yes("ASCII alone", source.chars().allMatch(c -> c < 128));
        check.same("one import", List.of("import java.util.NoSuchElementException;"),
                source.lines().filter(line -> line.startsWith("import ")).collect(Collectors.toList()));
        String[] ruledOut = {"->", "::", "finally", "synchronized", "assert ", "catch", "package ", "System.", "Object ",
            "volatile", "native", "Exact(", "record ", "@", "java.io", "java.lang", "\" +", "+ \""};
        for (String word : ruledOut) {
            String code = source.replaceAll("(?s)/\\*.*?\\*/", "").replaceAll("//[^\n]*", "");
            check.yes("no " + word, !code.contains(word));
        }
    }

    private static void methodsAreShort() throws Exception {
        int begin = 0;
        int at = 0;
        for (String line : Files.readAllLines(SOURCE)) {
            at++;
            if (line.matches(" {4,8}\\S.*\\{") && !line.contains("class ")) {
                begin = at;
            }
            if (line.matches(" {4}\\}")) {
                check.yes("some sixty lines at most at line " + at, at - begin <= 60);
            }
        }
        check.yes("the source was read", at > 100);
    }
}
