import java.lang.reflect.Constructor;
import java.lang.reflect.Executable;
import java.lang.reflect.Field;
import java.lang.reflect.Method;
import java.lang.reflect.Modifier;
import java.util.HashSet;
import java.util.List;
import java.util.NoSuchElementException;
import java.util.Set;
import java.util.TreeSet;

/** The class shows the document's face and nothing else (LANGUAGE.md, rules 1, 2 and 5). */
public final class FaceTest {
    private static final Set<String> FACE = Set.of(
            "int steps(int)", "int segment(int,int,int)", "int alter(int,int,int)", "int drop()", "int start(int)",
            "int base(int)", "int roller(int)", "boolean spring(int,int,int)", "int speed(int)", "int steepest(int)",
            "int slack(int)", "int mark(int,int,int)", "boolean unmark(int)", "boolean back()", "int of(int,int)",
            "int lift(int)", "int diff(int,int)", "int most(int,int)", "int border(int)", "long shape(int,int)",
            "int undercut(int)", "int press(int)", "long force(int)", "int bad(int,int)", "int top(int)", "int met()",
            "int marked(int,int)", "int best(int)", "int limit(int)", "int count(int)");
    private static final Set<String> THROWING = Set.of("diff", "shape", "force");

    private static int wrong = 0;

    private static void must(boolean holds, String what) {
        if (!holds) {
            wrong++;
            System.out.println("face: " + what);
        }
    }

    private static String parameters(Executable e) {
        List<String> names = new java.util.ArrayList<>();
        for (Class<?> type : e.getParameterTypes()) {
            names.add(type.getSimpleName());
        }
        return "(" + String.join(",", names) + ")";
    }

    public static void main(String[] args) throws Exception {
        methods();
        fields();
        must(CamMaker.class.getModifiers() == (Modifier.PUBLIC | Modifier.FINAL), "the class is public and final");
        Constructor<?>[] constructors = CamMaker.class.getDeclaredConstructors();
        must(constructors.length == 1 && Modifier.isPublic(constructors[0].getModifiers())
                && constructors[0].getParameterCount() == 0, "one public constructor without parameters");
        for (Class<?> inner : CamMaker.class.getDeclaredClasses()) {
            inside(inner);
        }
        System.out.println(wrong == 0 ? "the face is as due" : wrong + " things are not as due");
        if (wrong != 0) {
            System.exit(1);
        }
    }

    private static void methods() {
        Set<String> seen = new TreeSet<>();
        for (Method m : CamMaker.class.getDeclaredMethods()) {
            String told = m.getReturnType().getSimpleName() + " " + m.getName() + parameters(m);
            if (Modifier.isPrivate(m.getModifiers())) {
                must(!names().contains(m.getName()), "private " + told + " bears a public name");
                continue;
            }
            seen.add(told);
            must(m.getModifiers() == Modifier.PUBLIC, told + " is public alone");
            Class<?>[] thrown = m.getExceptionTypes();
            boolean due = THROWING.contains(m.getName());
            must(due ? thrown.length == 1 && thrown[0] == NoSuchElementException.class : thrown.length == 0,
                    told + " names the exceptions of the document");
        }
        must(seen.equals(FACE), "the methods are " + seen);
    }

    private static Set<String> names() {
        Set<String> names = new HashSet<>();
        for (String told : FACE) {
            names.add(told.substring(told.indexOf(' ') + 1, told.indexOf('(')));
        }
        return names;
    }

    private static void fields() throws Exception {
        for (Field f : CamMaker.class.getDeclaredFields()) {
            int modifiers = f.getModifiers();
            if (f.getName().equals("NONE")) {
                must(modifiers == (Modifier.PUBLIC | Modifier.STATIC | Modifier.FINAL) && f.getType() == int.class
                        && f.getInt(null) == -1, "NONE is a public constant, -1");
                continue;
            }
            must(Modifier.isPrivate(modifiers), f.getName() + " is private");
            must(!Modifier.isStatic(modifiers) || Modifier.isFinal(modifiers), f.getName() + " is final");
        }
    }

    private static void inside(Class<?> inner) {
        must(Modifier.isStatic(inner.getModifiers()) && !Modifier.isPublic(inner.getModifiers()),
                inner.getName() + " is static and not public");
        for (Method m : inner.getDeclaredMethods()) {
            must(!Modifier.isPublic(m.getModifiers()) && !names().contains(m.getName()),
                    inner.getName() + "." + m.getName() + " is no member of the face");
        }
        for (Field f : inner.getDeclaredFields()) {
            must(!Modifier.isStatic(f.getModifiers()) || Modifier.isFinal(f.getModifiers()), f.getName() + " is final");
        }
    }
}
