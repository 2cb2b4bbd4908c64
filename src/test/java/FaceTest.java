import java.lang.reflect.Constructor;
import java.lang.reflect.Field;
import java.lang.reflect.Method;
import java.lang.reflect.Modifier;
import java.util.Set;
import java.util.TreeSet;

/** The public face, and LANGUAGE.md's rules 1 and 5, as far as they can be seen from the class. */
public final class FaceTest {
    private static final String[] FACE = {"int status()", "int feed(int,int,int,int,int)", "int load(int)",
        "int fault(int)", "int strip(int,int)", "int pick(int,int)", "int block(int,int,int)", "int cloth(int,int,int)",
        "int at(int,int,int)", "int seam(int,int,int)", "int shifts(int,int)", "int order(int)", "int out(int)",
        "boolean loom(int,int)", "int yarn(int,int)", "int lot(int,int)", "boolean stock(int,int)", "int dye(int,int)",
        "int far(int,int)", "boolean right(int,int,int,int,int)", "int may(int,int,int,int)"};

    public static void main(String[] args) {
        Class<?> face = StripCloth.class;
        Check.due("public and final", Modifier.isPublic(face.getModifiers()) && Modifier.isFinal(face.getModifiers()), true);
        constructors(face);
        methods(face);
        fields(face);
        for (Class<?> inside : face.getDeclaredClasses()) {
            Check.due(inside + " is static", Modifier.isStatic(inside.getModifiers()), true);
            Check.due(inside + " is public or protected",
                    (inside.getModifiers() & (Modifier.PUBLIC | Modifier.PROTECTED)) != 0, false);
            staticFields(inside);
        }
        Check.due("classes inside are at most twelve", face.getDeclaredClasses().length <= 12, true);
        Check.end();
    }

    private static void constructors(Class<?> face) {
        Constructor<?>[] all = face.getDeclaredConstructors();
        Check.due("constructors", all.length, 1);
        Check.due("its parameters", all[0].getParameterCount(), 0);
        Check.due("it is public", Modifier.isPublic(all[0].getModifiers()), true);
    }

    private static String told(Method m) {
        StringBuilder told = new StringBuilder(m.getReturnType() + " " + m.getName() + "(");
        for (Class<?> type : m.getParameterTypes()) {
            told.append(told.charAt(told.length() - 1) == '(' ? "" : ",").append(type);
        }
        return told.append(")").toString();
    }

    private static void methods(Class<?> face) {
        Set<String> due = new TreeSet<>(Set.of(FACE));
        Set<String> names = new TreeSet<>();
        for (String f : FACE) {
            names.add(f.substring(f.indexOf(' ') + 1, f.indexOf('(')));
        }
        for (Method m : face.getDeclaredMethods()) {
            if (Modifier.isPublic(m.getModifiers()) && !Modifier.isStatic(m.getModifiers())) {
                Check.due(told(m) + " is of the face", due.remove(told(m)), true);
            } else {
                Check.due(told(m) + " is private", Modifier.isPrivate(m.getModifiers()), true);
                Check.due(told(m) + " bears a public name", names.contains(m.getName()), false);
            }
        }
        for (Class<?> inside : face.getDeclaredClasses()) {
            for (Method m : inside.getDeclaredMethods()) {
                Check.due(told(m) + " inside bears a public name", names.contains(m.getName()), false);
            }
        }
        Check.due("left out of the face: " + due, due.size(), 0);
    }

    private static void fields(Class<?> face) {
        int open = 0;
        for (Field f : face.getDeclaredFields()) {
            if (!Modifier.isPrivate(f.getModifiers())) {
                open++;
                Check.due(f + " is NONE", f.getName().equals("NONE") && Modifier.isPublic(f.getModifiers()), true);
            }
        }
        Check.due("open fields", open, 1);
        staticFields(face);
    }

    private static void staticFields(Class<?> which) {
        for (Field f : which.getDeclaredFields()) {
            if (Modifier.isStatic(f.getModifiers())) {
                Check.due(f + " is final", Modifier.isFinal(f.getModifiers()), true);
            }
        }
    }
}
