import java.io.IOException;
import java.lang.reflect.Constructor;
import java.lang.reflect.Field;
import java.lang.reflect.Method;
import java.lang.reflect.Modifier;
import java.nio.file.Files;
import java.nio.file.Path;
import java.util.Arrays;
import java.util.Set;
import java.util.TreeSet;
import java.util.regex.Matcher;
import java.util.regex.Pattern;

/** The public face, and those rules of LANGUAGE.md that a look at the class or at its text can tell. */
public final class FaceTests {
    private static final Set<String> FACE = new TreeSet<>(Arrays.asList(
            "int triple(int,int,int)", "int pattern(int,int,int)", "int optional(int,int)",
            "int filter(int,int,int,boolean)", "int cost(int,int)", "int hint(int,int)", "int plan()",
            "int step(int,int)", "long estimate(int)", "int move(int)", "int run()", "int row(int,int)", "int plain()",
            "boolean keeps()"));
    private static final String[] NOT_IN_THE_TEXT = {
        "\\bimport\\b", "\\bpackage\\b", "\\btry\\b", "\\bcatch\\b", "\\bfinally\\b", "\\bthrow\\b", "->", "::",
        "\\bsynchronized\\b", "\\bassert\\b", "\\bstatic\\s*\\{", "\\bSystem\\b(?!\\.arraycopy)", "[^\\x00-\\x7f]"
    };
    private static final int LONGEST_METHOD = 60;
    private static int wrong;

    public static void main(String[] args) throws IOException {
        face();
        classesInside();
        staticFields();
        text(Files.readString(Path.of(System.getProperty("joinorder.source", "src/main/java/JoinOrder.java"))));
        System.out.println("FaceTests: " + (wrong == 0 ? "the face is as due" : wrong + " faults"));
        if (wrong != 0) {
            System.exit(1);
        }
    }

    private static void must(boolean holds, String what) {
        if (!holds) {
            wrong++;
            System.out.println(what);
        }
    }

    private static void face() {
        Class<?> c = JoinOrder.class;
        must(Modifier.isPublic(c.getModifiers()) && Modifier.isFinal(c.getModifiers()), "rule 1: public and final");
        Constructor<?>[] constructors = c.getDeclaredConstructors();
        must(constructors.length == 1 && Modifier.isPublic(constructors[0].getModifiers())
                && constructors[0].getParameterCount() == 0, "rule 1: one public constructor without parameters");
        Set<String> seen = new TreeSet<>();
        Set<String> names = new TreeSet<>();
        for (Method m : c.getDeclaredMethods()) {
            if (Modifier.isPublic(m.getModifiers())) {
                must(!Modifier.isStatic(m.getModifiers()), "rule 1: not static: " + m);
                seen.add(signature(m));
                names.add(m.getName());
            } else {
                must(Modifier.isPrivate(m.getModifiers()), "rule 1: neither public nor private: " + m);
            }
        }
        must(seen.equals(FACE), "the face is " + seen + ", due is " + FACE);
        for (Field f : c.getDeclaredFields()) {
            must(Modifier.isPrivate(f.getModifiers()), "rule 1: a field that is not private: " + f);
        }
        for (Method m : c.getDeclaredMethods()) {
            must(Modifier.isPublic(m.getModifiers()) || !names.contains(m.getName()), "rule 1: a public one's name: " + m);
        }
    }

    private static String signature(Method m) {
        StringBuilder text = new StringBuilder(m.getReturnType() + " " + m.getName() + "(");
        for (int i = 0; i < m.getParameterCount(); i++) {
            text.append(i == 0 ? "" : ",").append(m.getParameterTypes()[i]);
        }
        return text.append(")").toString();
    }

    private static void classesInside() {
        Class<?>[] inside = JoinOrder.class.getDeclaredClasses();
        must(inside.length <= 11, "rule 11: classes: " + inside.length);
        for (Class<?> c : inside) {
            must(Modifier.isStatic(c.getModifiers()) && !Modifier.isPublic(c.getModifiers())
                    && !Modifier.isProtected(c.getModifiers()), "rule 1: " + c);
            for (Method m : c.getDeclaredMethods()) {
                must(m.getParameterCount() <= 7, "rule 11: parameters: " + m);
                must(FACE.stream().noneMatch(s -> s.contains(" " + m.getName() + "(")), "rule 1: a public one's name: " + m);
            }
            long fields = Arrays.stream(c.getDeclaredFields()).filter(f -> !Modifier.isStatic(f.getModifiers())).count();
            must(fields <= 20, "rule 11: fields: " + c);
        }
    }

    private static void staticFields() {
        staticFieldsOf(JoinOrder.class);
        for (Class<?> c : JoinOrder.class.getDeclaredClasses()) {
            staticFieldsOf(c);
        }
    }

    private static void staticFieldsOf(Class<?> c) {
        for (Field f : c.getDeclaredFields()) {
            if (Modifier.isStatic(f.getModifiers())) {
                must(Modifier.isFinal(f.getModifiers()) && f.getType().isPrimitive(), "rule 5: " + f);
            }
        }
    }

    private static void text(String source) {
        String code = source.replaceAll("(?s)/\\*.*?\\*/", "").replaceAll("//.*", "");
        for (String pattern : NOT_IN_THE_TEXT) {
            Matcher found = Pattern.compile(pattern).matcher(code);
            must(!found.find(), "LANGUAGE.md: " + pattern + " in the text");
        }
        must(!Pattern.compile("\\bnew\\b[^;=]*;").matcher(code.replaceAll("(?m)^ *(private )?(final )?[\\w\\[\\]]+ \\w+ = new .*;$", ""))
                .find(), "an object is made outside a field");
        int opened = -1;
        String[] lines = source.split("\n");
        for (int i = 0; i < lines.length; i++) {
            if (lines[i].matches(" {4}(?: {4})?[a-z].*\\) \\{")) {
                opened = i;
            } else if (lines[i].matches(" {4}(?: {4})?\\}") && opened >= 0) {
                must(i - opened <= LONGEST_METHOD, "rule 11: a long method at line " + (opened + 1));
                opened = -1;
            }
        }
    }

    private FaceTests() {
    }
}
