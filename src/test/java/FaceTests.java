import java.lang.reflect.Constructor;
import java.lang.reflect.Field;
import java.lang.reflect.Method;
import java.lang.reflect.Modifier;
import java.util.Arrays;
import java.util.Set;
import java.util.TreeSet;

/** "The public face", and those rules of the language that reflection can see. */
public final class FaceTests {
    private static final String[] FACE = {
        "addTask(int,int,int,int)int IndexOutOfBoundsException IllegalArgumentException IllegalStateException",
        "append(int)int IllegalArgumentException IllegalStateException",
        "because(int,int)int IndexOutOfBoundsException IllegalStateException",
        "begin(int)int IllegalArgumentException",
        "carryOut()int",
        "clearText()int",
        "decided()double IllegalStateException",
        "digest()long",
        "dominates(int,int)boolean IndexOutOfBoundsException",
        "drawn(int,int)int IllegalArgumentException",
        "firstStart(int)int IndexOutOfBoundsException IllegalStateException",
        "give(int,int,boolean)int IndexOutOfBoundsException IllegalArgumentException IllegalStateException",
        "giveDominance()int",
        "inBest(int,int)int IndexOutOfBoundsException IllegalArgumentException",
        "lastEnd(int)int IndexOutOfBoundsException IllegalStateException",
        "leastDue(int)int IndexOutOfBoundsException",
        "lowerBound()int",
        "makespan()int",
        "precedes(int,int)boolean IndexOutOfBoundsException IllegalStateException",
        "refutes(int,int)boolean IndexOutOfBoundsException",
        "setDates(int,int,int)int IndexOutOfBoundsException IllegalArgumentException",
        "slack(int)int IndexOutOfBoundsException IllegalStateException",
        "task(int,int)int IndexOutOfBoundsException IllegalArgumentException",
        "undo()int IllegalStateException",
        "value(int)int IllegalArgumentException",
        "why(int,int)int IndexOutOfBoundsException IllegalStateException",
    };

    public static void main(String[] args) throws Exception {
        face();
        classesInside();
        Check.end();
    }

    private static String signature(Method m) {
        StringBuilder s = new StringBuilder(m.getName()).append('(');
        for (Class<?> p : m.getParameterTypes()) {
            s.append(s.charAt(s.length() - 1) == '(' ? "" : ",").append(p.getName());
        }
        s.append(')').append(m.getReturnType().getName());
        for (Class<?> e : m.getExceptionTypes()) {
            s.append(' ').append(e.getSimpleName());
        }
        return s.toString();
    }

    private static void face() throws Exception {
        Class<?> c = EdgeTasks.class;
        Check.isTrue("the class is not public and final",
                Modifier.isPublic(c.getModifiers()) && Modifier.isFinal(c.getModifiers()));
        Check.isTrue("the class has a package", c.getPackageName().isEmpty());
        Set<String> methods = new TreeSet<>();
        for (Method m : c.getDeclaredMethods()) {
            if (!Modifier.isPrivate(m.getModifiers())) {
                Check.isTrue(m + " is not public",
                        Modifier.isPublic(m.getModifiers()) && !Modifier.isStatic(m.getModifiers()));
                methods.add(signature(m));
            }
        }
        Check.same("methods", methods.toString(), new TreeSet<>(Arrays.asList(FACE)).toString());
        for (Field f : c.getDeclaredFields()) {
            Check.isTrue(f + " is not private", Modifier.isPrivate(f.getModifiers()) || f.getName().equals("NONE"));
        }
        Field none = c.getDeclaredField("NONE");
        Check.same("NONE's kind", none.toString(), "public static final int EdgeTasks.NONE");
        Check.same("NONE", none.getInt(null), -1);
        Constructor<?>[] constructors = c.getDeclaredConstructors();
        Check.same("constructors", constructors.length, 1);
        Check.same("constructor", constructors[0].toString(), "public EdgeTasks()");
    }

    private static void classesInside() {
        Set<String> face = new TreeSet<>();
        for (String s : FACE) {
            face.add(s.substring(0, s.indexOf('(')));
        }
        Class<?>[] inside = EdgeTasks.class.getDeclaredClasses();
        Check.isTrue("more than 11 classes inside", inside.length <= 11);
        perClass(EdgeTasks.class, face);
        for (Class<?> c : inside) {
            Check.isTrue(c + " is public", !Modifier.isPublic(c.getModifiers()) && Modifier.isStatic(c.getModifiers()));
            perClass(c, face);
        }
    }

    private static void perClass(Class<?> c, Set<String> face) {
        int fields = 0;
        for (Field f : c.getDeclaredFields()) {
            if (Modifier.isStatic(f.getModifiers())) {
                Check.isTrue(f + " is static state", Modifier.isFinal(f.getModifiers()) && f.getType().isPrimitive());
            } else {
                fields++;
            }
        }
        Check.isTrue(c + " has more than 20 fields", fields <= 20);
        for (Method m : c.getDeclaredMethods()) {
            Check.isTrue(m + " takes more than 7 parameters", m.getParameterCount() <= 7);
            Check.isTrue(m + " bears the name of a public method",
                    Modifier.isPublic(m.getModifiers()) || !face.contains(m.getName()));
        }
    }
}
