import java.io.IOException;
import java.lang.reflect.Constructor;
import java.lang.reflect.Field;
import java.lang.reflect.Method;
import java.lang.reflect.Modifier;
import java.nio.file.Files;
import java.nio.file.Path;
import java.util.HashSet;
import java.util.List;
import java.util.Set;
import java.util.TreeSet;
import java.util.regex.Matcher;
import java.util.regex.Pattern;

/** The face is the document's and nothing else, and the source keeps to what of LANGUAGE.md can be read off it. */
public final class FaceTest {
    private static final String[] CALLS = {
        "int ship(int, int, int, int, int)", "int set(int, int)", "int bar(int, int, boolean)", "int cap(int, int)",
        "int may(int)", "int told(int, int)", "int lane(int, int)", "int count(int)", "int taken(int, int)", "int fill()",
        "int next(int, int)", "long water()", "long spent(int)", "int leave(int)", "int undo()", "int plan(int)",
        "int drought()", "int waits(int)", "int line(int)", "int day(int)", "int freely(int)", "int tells(int, int, int)",
        "int film(int, int)", "int image()", "int back()", "int sheet(int, int, int)", "int put(int, int, int)",
        "int copy(int, int, int, int, int)", "int load(int, int, int, int)"};
    private static final String[] CONSTANTS = {"int NONE", "int BAD", "int STATE", "int FULL", "long NO"};
    private static final String[] FORBIDDEN = {"\\bthrow\\b", "\\btry\\b", "\\bcatch\\b", "\\bsynchronized\\b", "\\bassert\\b",
        "->", "::", "\\bwhile\\b", "\\bprotected\\b", "\\bhashCode\\b", "\\btoString\\b", "\\w+Exact\\b", "\\bSystem\\.(?!arraycopy)",
        "static\\s*\\{", "\\b(?:double|float|String)\\b", "\\bextends\\b", "\\bimplements\\b"};

    private static int wrong = 0;

    private static void hold(String what, boolean is) {
        if (!is) {
            wrong++;
            System.out.println("not so: " + what);
        }
    }

    private static String face(Method m) {
        StringBuilder parts = new StringBuilder();
        for (Class<?> part : m.getParameterTypes()) {
            parts.append(parts.length() == 0 ? "" : ", ").append(part.getName());
        }
        return m.getReturnType().getName() + " " + m.getName() + "(" + parts + ")";
    }

    private static void face() {
        Class<LaneLock> c = LaneLock.class;
        hold("public final", Modifier.isPublic(c.getModifiers()) && Modifier.isFinal(c.getModifiers()));
        Set<String> calls = new TreeSet<>(), names = new HashSet<>();
        for (Method m : c.getDeclaredMethods()) {
            if (Modifier.isPublic(m.getModifiers())) {
                hold(m + " is no static one", !Modifier.isStatic(m.getModifiers()));
                calls.add(face(m));
                names.add(m.getName());
            } else {
                hold(m + " is private", Modifier.isPrivate(m.getModifiers()));
            }
        }
        hold("the calls are those of the document: " + calls, calls.equals(new TreeSet<>(List.of(CALLS))));
        hold("no private method bears a public name", noneBears(c, names));
        Set<String> constants = new TreeSet<>();
        for (Field f : c.getDeclaredFields()) {
            if (Modifier.isPublic(f.getModifiers())) {
                hold(f + " is a constant", Modifier.isStatic(f.getModifiers()) && Modifier.isFinal(f.getModifiers()));
                constants.add(f.getType().getName() + " " + f.getName());
            } else {
                hold(f + " is private", Modifier.isPrivate(f.getModifiers()));
                hold(f + " is final, if static", !Modifier.isStatic(f.getModifiers()) || Modifier.isFinal(f.getModifiers()));
            }
        }
        hold("the constants are those of the document: " + constants, constants.equals(new TreeSet<>(List.of(CONSTANTS))));
        Constructor<?>[] made = c.getDeclaredConstructors();
        hold("one public constructor", made.length == 1 && made[0].getParameterCount() == 0 && Modifier.isPublic(made[0].getModifiers()));
        for (Class<?> inside : c.getDeclaredClasses()) {
            hold(inside + " is private and static", Modifier.isPrivate(inside.getModifiers()) && Modifier.isStatic(inside.getModifiers()));
            hold(inside + " bears no public name", noneBears(inside, names));
        }
        hold("some twelve classes at most", c.getDeclaredClasses().length < 12);
    }

    private static boolean noneBears(Class<?> c, Set<String> names) {
        for (Method m : c.getDeclaredMethods()) {
            if (!Modifier.isPublic(m.getModifiers()) && names.contains(m.getName())) {
                return false;
            }
        }
        return true;
    }

    private static void source() throws IOException {
        String source = Files.readString(Path.of("src/main/java/LaneLock.java"));
        for (char sign : source.toCharArray()) {
            hold("plain signs", sign < 127);
        }
        String code = source.replaceAll("(?s)/\\*.*?\\*/", "").replaceAll("//[^\n]*", "");
        for (String forbidden : FORBIDDEN) {
            hold("nowhere: " + forbidden, !Pattern.compile(forbidden).matcher(code).find());
        }
        Matcher imports = Pattern.compile("import ([^;]*);").matcher(code);
        while (imports.find()) {
            hold("import " + imports.group(1), imports.group(1).equals("java.util.Arrays"));
        }
        methods(code);
    }

    /** Methods are short, and just constructors and initialisers make objects, so that no call fills the room. */
    private static void methods(String code) {
        Matcher heads = Pattern.compile("\n( +)((?:public |private |static |final )*)(\\w[\\w\\[\\]]*) ?(\\w*)\\(([^()]*)\\) \\{(.*?)\n\\1\\}", Pattern.DOTALL).matcher(code);
        int found = 0;
        while (heads.find()) {
            if (heads.group(3).matches("if|for|switch|else|return")) {
                continue;
            }
            found++;
            String name = heads.group(3) + " " + heads.group(4);
            boolean isConstructor = heads.group(4).isEmpty();
            hold(name + " is short", heads.group(6).split("\n").length <= 60);
            hold(name + " has seven parameters at most", heads.group(5).split(",").length <= 7);
            hold(name + " makes nothing", isConstructor || !Pattern.compile("\\bnew\\b|\\.clone\\(").matcher(heads.group(6)).find());
        }
        hold("methods were found: " + found, found > 60);
    }

    public static void main(String[] args) throws IOException {
        face();
        source();
        System.out.println(wrong == 0 ? "the face is the document's" : wrong + " faults of the face");
        if (wrong != 0) {
            System.exit(1);
        }
    }
}
