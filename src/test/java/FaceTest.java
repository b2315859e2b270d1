import java.lang.reflect.Constructor;
import java.lang.reflect.Field;
import java.lang.reflect.Method;
import java.lang.reflect.Modifier;
import java.util.Arrays;
import java.util.Set;
import java.util.TreeSet;

/** The face of the document: its constants, constructor and methods, and no other member that can be seen. */
public final class FaceTest {
    private static final Answers A = new Answers("FaceTest");
    private static final String[] FACE = {
        "int set(int,int)", "int setZone(int,boolean,int)", "int setWindow(int,int)", "int append(int,int,int)",
        "int reset(int)", "int finish(int)", "int close(int)", "int pass(int)", "int follow()", "int type(char)",
        "int clearText()", "int undo()", "int keep()", "int restore()", "int read(int,int)", "int zone(int,int)",
        "int appended(int,int)", "int writer(int,int)", "int told(int)", "int toldIn(int)", "int would(int,int)",
        "int count(int)"};

    public static void main(String[] args) throws Exception {
        Class<?> c = AppendZones.class;
        A.dueTrue("public and final", Modifier.isPublic(c.getModifiers()) && Modifier.isFinal(c.getModifiers()));
        A.dueTrue("it has no class above it", c.getSuperclass() == Object.class && c.getInterfaces().length == 0);
        constants(c);
        methods(c);
        Constructor<?>[] made = c.getDeclaredConstructors();
        A.due("constructors", made.length, 1);
        A.dueTrue("public, without arguments", Modifier.isPublic(made[0].getModifiers()) && made[0].getParameterCount() == 0);
        for (Class<?> inside : c.getDeclaredClasses()) {
            A.dueTrue(inside + " is static", Modifier.isStatic(inside.getModifiers()) || inside.isEnum());
            A.dueTrue(inside + " can't be seen", (inside.getModifiers() & (Modifier.PUBLIC | Modifier.PROTECTED)) == 0);
        }
        A.end();
    }

    private static void constants(Class<?> c) throws Exception {
        String[] names = {"UNKNOWN", "BAD_VALUE", "FULL", "NOT_POSSIBLE", "NONE"};
        for (int i = 0; i < names.length; i++) {
            Field f = c.getField(names[i]);
            A.dueTrue(names[i] + " is an int constant", f.getType() == int.class && Modifier.isStatic(f.getModifiers()) && Modifier.isFinal(f.getModifiers()));
            A.due(names[i], f.getInt(null), -1 - i);
        }
        for (Field f : c.getDeclaredFields()) {
            boolean named = Arrays.asList(names).contains(f.getName());
            A.dueTrue("the field " + f.getName() + " is as it may be seen", named == Modifier.isPublic(f.getModifiers()) && (named || Modifier.isPrivate(f.getModifiers())));
            A.dueTrue("the field " + f.getName() + " is no static state", !Modifier.isStatic(f.getModifiers()) || Modifier.isFinal(f.getModifiers()));
        }
    }

    private static void methods(Class<?> c) {
        Set<String> seen = new TreeSet<>();
        Set<String> names = new TreeSet<>();
        for (Method m : c.getDeclaredMethods()) {
            if (Modifier.isPublic(m.getModifiers())) {
                seen.add(said(m));
                names.add(m.getName());
                A.dueTrue(m.getName() + " throws nothing that is declared", m.getExceptionTypes().length == 0);
                A.dueTrue(m.getName() + " is no static one", !Modifier.isStatic(m.getModifiers()));
            }
        }
        A.dueTrue("the methods are " + seen, seen.equals(new TreeSet<>(Arrays.asList(FACE))));
        for (Method m : c.getDeclaredMethods()) {
            A.dueTrue(m.getName() + " is public or private", Modifier.isPublic(m.getModifiers()) || Modifier.isPrivate(m.getModifiers()));
            A.dueTrue("private " + m.getName() + " has a name of its own", Modifier.isPublic(m.getModifiers()) || !names.contains(m.getName()));
        }
        for (Class<?> inside : c.getDeclaredClasses()) {
            for (Method m : inside.getDeclaredMethods()) {
                A.dueTrue(inside.getSimpleName() + "." + m.getName() + " has a name of its own", !names.contains(m.getName()));
            }
        }
    }

    private static String said(Method m) {
        StringBuilder s = new StringBuilder(m.getReturnType().getSimpleName()).append(' ').append(m.getName()).append('(');
        for (int i = 0; i < m.getParameterCount(); i++) {
            s.append(i == 0 ? "" : ",").append(m.getParameterTypes()[i].getSimpleName());
        }
        return s.append(')').toString();
    }
}
