import java.io.IOException;
import java.lang.reflect.Constructor;
import java.lang.reflect.Field;
import java.lang.reflect.Method;
import java.lang.reflect.Modifier;
import java.nio.file.Files;
import java.nio.file.Path;
import java.util.ArrayList;
import java.util.List;
import java.util.Map;
import java.util.Set;
import java.util.TreeMap;
import java.util.TreeSet;
import java.util.regex.Matcher;
import java.util.regex.Pattern;

/** The face is the document's and no more, and the source keeps to those rules of LANGUAGE.md that can be seen. */
public final class FaceTests {
    private static final Due DUE = new Due();
    private static final Set<String> FACE = Set.of(
        "int jug(int,int)", "int set(int,boolean)", "int put(int,int)", "int holds(int)", "int act(int)",
        "int clear()", "int fewest(int,int)", "long rows(int,int)", "int best(int,int,int)",
        "int sparing(int,int,int)", "int spare(int,int,int)", "int makes()", "int reaches()", "int road(int,int)",
        "int sizes(int,int,int)", "int glass(int)", "int smash()", "int await(int)", "int turns(int)",
        "long spans(int)", "int count(int)");
    /** A method begins at a line that ends with ") {" at the depth of a class's members. */
    private static final Pattern METHOD = Pattern.compile(
        "^(    |        )(?:public |private |static |final )*(?:[\\w\\[\\]]+ )?(\\w+)\\([^)]*\\) \\{$");

    public static void main(String[] args) throws IOException {
        face();
        insideClasses();
        Path home = Path.of(System.getProperty("jug.home", "."));
        source(Files.readString(home.resolve("src/main/java/JugsAndGlasses.java")));
        DUE.end();
    }

    private static String sign(Method m) {
        StringBuilder sign = new StringBuilder(m.getReturnType().getName() + " " + m.getName() + "(");
        for (int i = 0; i < m.getParameterCount(); i++) {
            sign.append(i == 0 ? "" : ",").append(m.getParameterTypes()[i].getName());
        }
        return sign.append(")").toString();
    }

    private static void face() {
        Class<?> c = JugsAndGlasses.class;
        DUE.holds("public and final", Modifier.isPublic(c.getModifiers()) && Modifier.isFinal(c.getModifiers()));
        Set<String> found = new TreeSet<>();
        for (Method m : c.getDeclaredMethods()) {
            if (Modifier.isPrivate(m.getModifiers()) || m.isSynthetic()) {
                continue;
            }
            found.add(sign(m));
            DUE.holds(m + " is public, throws nothing and is no static method",
                Modifier.isPublic(m.getModifiers()) && !Modifier.isStatic(m.getModifiers())
                    && m.getExceptionTypes().length == 0);
        }
        DUE.holds("the methods are the document's: " + found, found.equals(new TreeSet<>(FACE)));
        Set<String> constants = new TreeSet<>();
        for (Field f : c.getDeclaredFields()) {
            if (!Modifier.isPrivate(f.getModifiers())) {
                constants.add(f.getName());
                DUE.holds(f + " is a constant", f.getModifiers() == (Modifier.PUBLIC | Modifier.STATIC | Modifier.FINAL)
                    && f.getType() == int.class);
            }
        }
        DUE.holds("the constants are the document's: " + constants,
            constants.equals(new TreeSet<>(Set.of("NONE", "BAD", "NOT", "FULL"))));
        Constructor<?>[] makers = c.getDeclaredConstructors();
        DUE.holds("one public constructor", makers.length == 1 && Modifier.isPublic(makers[0].getModifiers())
            && makers[0].getParameterCount() == 0);
    }

    private static void insideClasses() {
        List<Class<?>> all = new ArrayList<>(List.of(JugsAndGlasses.class.getDeclaredClasses()));
        DUE.holds("at most twelve classes", all.size() < 12);
        Set<String> names = new TreeSet<>();
        for (String sign : FACE) {
            names.add(sign.substring(sign.indexOf(' ') + 1, sign.indexOf('(')));
        }
        for (Class<?> inside : all) {
            DUE.holds(inside + " is static", Modifier.isStatic(inside.getModifiers()));
            int fields = 0;
            for (Field f : inside.getDeclaredFields()) {
                boolean fixed = Modifier.isStatic(f.getModifiers());
                DUE.holds(f + " is final if it is static", !fixed || Modifier.isFinal(f.getModifiers()));
                fields += fixed ? 0 : 1;
            }
            DUE.holds(inside + " has at most twenty fields", fields <= 20);
            for (Method m : inside.getDeclaredMethods()) {
                DUE.holds(m + " bears no name of the face", !names.contains(m.getName()));
                DUE.holds(m + " takes at most seven", m.getParameterCount() <= 7);
            }
        }
    }

    private static void source(String text) {
        String code = text.replaceAll("(?s)/\\*.*?\\*/", "").replaceAll("//[^\n]*", "");
        String[] barred = {"throw", "throws", "try", "catch", "synchronized", "assert", "package", "var", "goto",
            "System", "Object", "Random", "Thread", "hashCode", "equals", "toString", "native", "volatile"};
        for (String word : barred) {
            DUE.holds("no " + word, !Pattern.compile("\\b" + word + "\\b").matcher(code).find());
        }
        DUE.holds("no lambda, no method reference", !code.contains("->") && !code.contains("::"));
        DUE.holds("no name that ends in Exact", !code.contains("Exact"));
        for (Matcher m = Pattern.compile("import ([^;]*);").matcher(code); m.find(); ) {
            DUE.holds("import " + m.group(1), m.group(1).equals("java.util.Arrays"));
        }
        DUE.holds("signs 0 to 127", text.chars().allMatch(sign -> sign < 128));
        library(code);
        shortMethods(code);
        callsInside(code);
    }

    /** What begins with a capital is a constant, a class of the file, or of the library and allowed. */
    private static void library(String code) {
        Set<String> own = new TreeSet<>(Set.of("JugsAndGlasses"));
        for (Class<?> inside : JugsAndGlasses.class.getDeclaredClasses()) {
            own.add(inside.getSimpleName());
        }
        for (Matcher m = Pattern.compile("\\b([A-Z]\\w*[a-z]\\w*)(\\.\\w+\\()?").matcher(code); m.find(); ) {
            String called = m.group(1) + (m.group(2) == null ? "" : m.group(2));
            DUE.holds(called + " is allowed", own.contains(m.group(1)) || called.equals("Arrays")
                || Set.of("Arrays.fill(", "Math.min(", "Math.max(", "Integer.bitCount(").contains(called));
        }
        for (Matcher m = Pattern.compile("\\b(double|float|while|do|instanceof|enum|interface)\\b").matcher(code); m.find(); ) {
            DUE.holds("no " + m.group(1) + " was needed", false);
        }
    }

    /** By the names of methods: no call leads back to itself, and calls go at most eight deep. */
    private static void callsInside(String code) {
        Map<String, Set<String>> calls = new TreeMap<>();
        String[] lines = code.split("\n");
        for (int k = 0; k < lines.length; k++) {
            Matcher m = METHOD.matcher(lines[k]);
            if (m.find()) {
                Set<String> called = calls.computeIfAbsent(m.group(2), name -> new TreeSet<>());
                for (int n = k + 1; n <= endOf(lines, k, m.group(1)); n++) {
                    for (Matcher call = Pattern.compile("\\b([a-z]\\w*)\\(").matcher(lines[n]); call.find(); ) {
                        called.add(call.group(1));
                    }
                }
            }
        }
        for (String sign : FACE) {
            String name = sign.substring(sign.indexOf(' ') + 1, sign.indexOf('('));
            DUE.holds(name + " is found in the source", calls.containsKey(name));
            int depth = depth(calls, name, 1);
            DUE.holds("calls of " + name + " go " + depth + " deep", depth <= 8);
        }
    }

    private static int depth(Map<String, Set<String>> calls, String name, int above) {
        int most = above;
        if (above > 8 || !calls.containsKey(name)) {
            return most;
        }
        for (String called : calls.get(name)) {
            most = Math.max(most, depth(calls, called, above + 1));
        }
        return most;
    }

    private static int endOf(String[] lines, int begin, String indent) {
        int end = begin;
        while (end < lines.length - 1 && !lines[end].equals(indent + "}")) {
            end++;
        }
        return end;
    }

    private static void shortMethods(String code) {
        String[] lines = code.split("\n");
        int methods = 0;
        for (int k = 0; k < lines.length; k++) {
            Matcher m = METHOD.matcher(lines[k]);
            if (m.find()) {
                methods++;
                DUE.holds(lines[k].trim() + " is short", endOf(lines, k, m.group(1)) - k < 60);
            }
        }
        DUE.holds("methods were found", methods > FACE.size());
    }
}
