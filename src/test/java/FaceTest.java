import java.lang.reflect.Constructor;
import java.lang.reflect.Field;
import java.lang.reflect.Method;
import java.lang.reflect.Modifier;
import java.nio.file.Files;
import java.nio.file.Path;
import java.util.Arrays;
import java.util.Set;
import java.util.TreeSet;
import java.util.regex.Matcher;
import java.util.regex.Pattern;

/** The public face of the class, and those rules of the language that a look at the class or its text can tell. */
public final class FaceTest {
    private static final Path SOURCE = Path.of("src/main/java/PieceSurfaces.java");
    private static final String[] METHODS = {"told/1", "wall/3", "corner/3", "edge/3", "pieces/3", "surface/2", "weight/3",
        "arcs/4", "bodies/1", "glue/5", "free/2", "put/0", "piece/4", "about/1", "add/2", "take/1", "drift/1", "undo/1",
        "write/2", "tear/0", "seed/1", "keep/1", "goBack/1"};
    private static final String[] CONSTANTS = {"NONE=-1", "UNKNOWN=-1000000001", "OUTSIDE=-1000000002", "NOT=-1000000003",
        "FULL=-1000000004"};
    private static final String[] FORBIDDEN = {"\\bthrow\\b", "\\btry\\b", "\\bcatch\\b", "\\bsynchronized\\b", "\\bassert\\b",
        "->", "::", "\\bstatic\\s*\\{", "Exact\\b", "\\bprotected\\b", "^package\\b", "\\bRandom\\b", "\\bSystem\\.(?!arraycopy)",
        "[^\\x00-\\x7f]"};
    private static int wrong;

    private FaceTest() {
    }

    public static void main(String[] args) throws Exception {
        Class<?> type = PieceSurfaces.class;
        expect("public final class", Modifier.isPublic(type.getModifiers()) && Modifier.isFinal(type.getModifiers()));
        lookAtMethods(type);
        lookAtFields(type);
        Constructor<?>[] made = type.getDeclaredConstructors();
        expect("one public constructor", made.length == 1 && Modifier.isPublic(made[0].getModifiers())
            && made[0].getParameterCount() == 0);
        lookAtInside(type);
        lookAtText(Files.readString(SOURCE));
        System.out.println("FaceTest: " + wrong + " wrong");
        if (wrong != 0) {
            System.exit(1);
        }
    }

    private static void expect(String what, boolean holds) {
        if (!holds) {
            wrong++;
            System.out.println("does not hold: " + what);
        }
    }

    private static void lookAtMethods(Class<?> type) {
        Set<String> open = new TreeSet<>();
        for (Method m : type.getDeclaredMethods()) {
            if (!Modifier.isPrivate(m.getModifiers())) {
                open.add(m.getName() + "/" + m.getParameterCount());
                boolean ints = m.getReturnType() == int.class && !Modifier.isStatic(m.getModifiers());
                for (Class<?> p : m.getParameterTypes()) {
                    ints &= p == int.class;
                }
                expect(m.getName() + " takes and returns int", ints && Modifier.isPublic(m.getModifiers()));
            }
        }
        expect("methods " + open, open.equals(new TreeSet<>(Arrays.asList(METHODS))));
    }

    private static void lookAtFields(Class<?> type) throws IllegalAccessException {
        Set<String> open = new TreeSet<>();
        for (Field f : type.getDeclaredFields()) {
            if (!Modifier.isPrivate(f.getModifiers())) {
                boolean constant = Modifier.isPublic(f.getModifiers()) && Modifier.isStatic(f.getModifiers())
                    && Modifier.isFinal(f.getModifiers()) && f.getType() == int.class;
                expect(f.getName() + " is a constant", constant);
                open.add(f.getName() + "=" + (constant ? f.getInt(null) : 0));
            }
        }
        expect("constants " + open, open.equals(new TreeSet<>(Arrays.asList(CONSTANTS))));
    }

    private static void lookAtInside(Class<?> type) {
        Set<String> names = new TreeSet<>();
        for (String m : METHODS) {
            names.add(m.substring(0, m.indexOf('/')));
        }
        expect("at most twelve classes", type.getDeclaredClasses().length + 1 <= 12);
        for (Class<?> inside : type.getDeclaredClasses()) {
            int flags = inside.getModifiers();
            expect(inside + " is static and not public", Modifier.isStatic(flags) && !Modifier.isPublic(flags));
            int fields = 0;
            for (Field f : inside.getDeclaredFields()) {
                expect(f + " is final if it is static", !Modifier.isStatic(f.getModifiers()) || Modifier.isFinal(f.getModifiers()));
                fields += Modifier.isStatic(f.getModifiers()) ? 0 : 1;
            }
            expect(inside + " has at most twenty fields", fields <= 20);
            for (Method m : inside.getDeclaredMethods()) {
                expect(m + " has a name of its own", !names.contains(m.getName()));
                expect(m + " takes at most seven", m.getParameterCount() <= 7);
            }
        }
    }

    private static void lookAtText(String text) {
        String bare = text.replaceAll("(?s)/\\*.*?\\*/", "").replaceAll("//[^\n]*", "");
        for (String word : FORBIDDEN) {
            Matcher m = Pattern.compile(word, Pattern.MULTILINE).matcher(bare);
            expect("no " + word, !m.find());
        }
        Matcher imports = Pattern.compile("^import (.*);", Pattern.MULTILINE).matcher(bare);
        while (imports.find()) {
            expect("import " + imports.group(1), imports.group(1).equals("java.util.Arrays"));
        }
        // Objects are made in constructors alone: no call makes one, so that no run can fill the room.
        String method = "";
        for (String line : bare.split("\n")) {
            Matcher head = Pattern.compile("^ +(?:[a-z]+ )*([\\w\\[\\]]+) ?(\\w*)\\([^;]*\\) \\{$").matcher(line);
            if (head.find() && !line.matches(" +(if|for|while|switch|\\} else).*")) {
                method = head.group(2);
            }
            expect("no object made in " + method + ": " + line, !line.contains("new ") || method.isEmpty());
        }
    }
}
