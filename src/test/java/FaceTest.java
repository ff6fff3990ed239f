import java.lang.reflect.Constructor;
import java.lang.reflect.Field;
import java.lang.reflect.Method;
import java.lang.reflect.Modifier;
import java.util.ArrayList;
import java.util.Arrays;
import java.util.List;
import java.util.TreeSet;

/** The public face is that of the document, and nothing else can be seen of the class. */
public final class FaceTest {
    private static final String[] METHODS = {
        "int thing(int,int,int)", "int light(int,int)", "int say(int)", "int wipe()", "int fault(int)",
        "int window()", "int stands(int)", "int draws(int,int)", "int kind(int,int,int)", "int law(int)",
        "int says(int,int,int)", "int part(int,int)", "int seen(int,int)", "int does(int,int)", "int week()",
        "int other(int)", "int best(int,int)", "int many(int)", "int exchanges(int)", "int rid(int,int)",
        "int stale(int)", "int mends(int)", "int shop(int,int,boolean)", "long lot(int)",
        "int boys(int,int,int,int)", "int image(int)", "int restore(int)", "int told(int)",
    };
    private static final String[] CONSTANTS = {
        "int NONE", "int UNKNOWN", "int OUTSIDE", "int STATE", "int FULL", "int NO", "long LOST",
    };

    public static void main(String[] args) {
        Check check = new Check();
        Class<?> face = ShopWindow.class;
        check.holds("public and final", Modifier.isPublic(face.getModifiers()) && Modifier.isFinal(face.getModifiers()));
        check.holds("no package", face.getPackageName().isEmpty());
        methods(check, face);
        constants(check, face);
        constructors(check, face);
        for (Class<?> inside : face.getDeclaredClasses()) {
            int how = inside.getModifiers();
            check.holds(inside + " is static and not public or protected",
                    Modifier.isStatic(how) && !Modifier.isPublic(how) && !Modifier.isProtected(how));
        }
        check.due("NONE", ShopWindow.NONE, -6);
        check.due("UNKNOWN", ShopWindow.UNKNOWN, -1);
        check.due("OUTSIDE", ShopWindow.OUTSIDE, -2);
        check.due("STATE", ShopWindow.STATE, -3);
        check.due("FULL", ShopWindow.FULL, -4);
        check.due("NO", ShopWindow.NO, -5);
        check.due("LOST", ShopWindow.LOST, -1_000_000_000_000_000_000L);
        check.end();
    }

    private static void methods(Check check, Class<?> face) {
        TreeSet<String> visible = new TreeSet<>();
        TreeSet<String> publicNames = new TreeSet<>();
        List<String> privateNames = new ArrayList<>();
        for (Method method : face.getDeclaredMethods()) {
            if (Modifier.isPrivate(method.getModifiers())) {
                privateNames.add(method.getName());
                continue;
            }
            check.holds(method + " is public, of the object", Modifier.isPublic(method.getModifiers())
                    && !Modifier.isStatic(method.getModifiers()));
            publicNames.add(method.getName());
            String types = Arrays.toString(method.getParameterTypes()).replaceAll("[\\[\\] ]", "");
            visible.add(method.getReturnType() + " " + method.getName() + "(" + types + ")");
        }
        TreeSet<String> due = new TreeSet<>(Arrays.asList(METHODS));
        check.holds("methods are " + due + ", not " + visible, due.equals(visible));
        for (Class<?> inside : face.getDeclaredClasses()) {
            for (Method method : inside.getDeclaredMethods()) {
                privateNames.add(method.getName());
            }
        }
        for (String name : privateNames) {
            check.holds(name + " is no name of the face", !publicNames.contains(name));
        }
    }

    private static void constants(Check check, Class<?> face) {
        TreeSet<String> visible = new TreeSet<>();
        for (Field field : face.getDeclaredFields()) {
            int how = field.getModifiers();
            check.holds(field + " is final if it is static", !Modifier.isStatic(how) || Modifier.isFinal(how));
            if (!Modifier.isPrivate(how)) {
                check.holds(field + " is a constant", Modifier.isPublic(how) && Modifier.isStatic(how));
                visible.add(field.getType() + " " + field.getName());
            }
        }
        TreeSet<String> due = new TreeSet<>(Arrays.asList(CONSTANTS));
        check.holds("constants are " + due + ", not " + visible, due.equals(visible));
    }

    private static void constructors(Check check, Class<?> face) {
        Constructor<?>[] made = face.getDeclaredConstructors();
        check.due("number of constructors", made.length, 1);
        check.holds("the constructor is public, without parameters",
                Modifier.isPublic(made[0].getModifiers()) && made[0].getParameterCount() == 0);
    }
}
