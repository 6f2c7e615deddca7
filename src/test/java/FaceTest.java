import java.lang.reflect.Constructor;
import java.lang.reflect.Field;
import java.lang.reflect.InvocationTargetException;
import java.lang.reflect.Method;
import java.lang.reflect.Modifier;
import java.util.Arrays;
import java.util.HashSet;
import java.util.NoSuchElementException;
import java.util.Set;
import java.util.TreeSet;

/** The face is the document's and no wider, and no call ever throws but as it says. */
public final class FaceTest {
    private static final String[] FACE = {
        "int feed(int,int,int,int,int)", "boolean end(int)", "int layout()", "int fault()", "int section(int,int)",
        "int points(int,int)", "int signal(int,int)", "int route(int,int)", "int over(int,int)", "int train(int,int)",
        "int now(int)", "int set(int)", "int back(int)", "int turn(int)", "int fail(int,int)", "int mend(int)",
        "int ticks(int)", "int undo()", "int lacking()", "int lacks(int)", "int spare()", "int pulls(int)",
        "int pullsAt(int)", "int together()", "int those()", "int rounds()", "int path(int,int)", "int pathAt(int)",
        "int comes(int,int)", "int meet()", "int fits()", "int fitsAt(int)", "int ask()", "int mean(int)", "int tag(int)",
        "int byteAt(int)", "int drawn(int,int)", "int odds(int,int)", "int book(int)", "int told(int)", "int sentence()",
        "int said(int)", "boolean image(int)", "boolean restore(int)", "int count(int)"};
    private static final int[] VALUES = {0, 1, -1, 2, 3, 4, 5, 6, 7, 8, 9, 11, 12, 15, 16, 30, 31, 32, 33, 60, 61, 63, 64, 100,
        1000, Integer.MAX_VALUE, Integer.MIN_VALUE, -2, -1000};

    private FaceTest() {
    }

    public static void main(String[] args) throws ReflectiveOperationException {
        face();
        hidden();
        edges("");
        edges(Check.JUNCTION);
        edges("section a 30;" + Check.times(6, "points p# a;") + "signal g a up;" + Check.times(10, "route r# g;") + "train t a up;");
        Check.finish("FaceTest");
    }

    private static void due(String what, boolean holds) {
        Check.due(what, holds, true);
    }

    private static void face() throws ReflectiveOperationException {
        Check.part("face");
        int kind = LeverFrame.class.getModifiers();
        due("public and final", Modifier.isPublic(kind) && Modifier.isFinal(kind));
        Set<String> got = new TreeSet<>();
        for (Method m : LeverFrame.class.getDeclaredMethods()) {
            if (!Modifier.isPrivate(m.getModifiers())) {
                due(m + " is public, not static", m.getModifiers() == Modifier.PUBLIC);
                StringBuilder text = new StringBuilder(m.getReturnType() + " " + m.getName() + "(");
                for (Class<?> c : m.getParameterTypes()) {
                    text.append(text.charAt(text.length() - 1) == '(' ? "" : ",").append(c);
                }
                got.add(text.append(")").toString());
            }
        }
        Check.dueText("methods", got.toString(), new TreeSet<>(Arrays.asList(FACE)).toString());
        Constructor<?>[] made = LeverFrame.class.getDeclaredConstructors();
        due("one public constructor without arguments", made.length == 1 && made[0].getParameterCount() == 0
                && made[0].getModifiers() == Modifier.PUBLIC);
        Field none = LeverFrame.class.getDeclaredField("NONE");
        due("the constant", none.getModifiers() == (Modifier.PUBLIC | Modifier.STATIC | Modifier.FINAL) && none.getInt(null) == -1);
        for (String name : new String[] {"train", "mean"}) {
            for (Method m : LeverFrame.class.getDeclaredMethods()) {
                if (m.getName().equals(name)) {
                    due(name + " tells what it throws", Arrays.asList(m.getExceptionTypes()).contains(NoSuchElementException.class));
                }
            }
        }
    }

    private static void hidden() {
        Check.part("what is hidden");
        Set<String> names = new HashSet<>();
        for (Method m : LeverFrame.class.getDeclaredMethods()) {
            if (Modifier.isPublic(m.getModifiers())) {
                names.add(m.getName());
            }
        }
        for (Method m : LeverFrame.class.getDeclaredMethods()) {
            due("private " + m.getName(), Modifier.isPublic(m.getModifiers()) || !names.contains(m.getName()));
        }
        for (Field f : LeverFrame.class.getDeclaredFields()) {
            due(f.getName() + " is private", f.getName().equals("NONE") || Modifier.isPrivate(f.getModifiers()));
            due(f.getName() + " is final, if static", !Modifier.isStatic(f.getModifiers()) || Modifier.isFinal(f.getModifiers()));
        }
        for (Class<?> c : LeverFrame.class.getDeclaredClasses()) {
            due(c + " is static and not public", Modifier.isStatic(c.getModifiers()) && !Modifier.isPublic(c.getModifiers())
                    && !Modifier.isProtected(c.getModifiers()));
            for (Field f : c.getDeclaredFields()) {
                due(c + "." + f.getName() + " is final, if static",
                        !Modifier.isStatic(f.getModifiers()) || Modifier.isFinal(f.getModifiers()));
            }
        }
    }

    /** Every call with every pair of values: nothing but NoSuchElementException of the two that may. */
    private static void edges(String layout) throws ReflectiveOperationException {
        Check.part("edges");
        LeverFrame x = Check.laid(layout);
        int calls = 0;
        for (int a : VALUES) {
            for (int b : VALUES) {
                for (Method m : LeverFrame.class.getDeclaredMethods()) {
                    if (!Modifier.isPublic(m.getModifiers()) || m.getParameterCount() < 2 && b != a) {
                        continue;
                    }
                    if (calls++ % 450 == 0) {
                        x = Check.laid(layout);
                    }
                    Object[] with = new Object[m.getParameterCount()];
                    for (int i = 0; i < with.length; i++) {
                        with[i] = i % 2 == 0 ? a : b;
                    }
                    callOnce(x, m, with);
                }
            }
        }
    }

    private static void callOnce(LeverFrame x, Method m, Object[] with) throws ReflectiveOperationException {
        try {
            m.invoke(x, with);
        } catch (InvocationTargetException e) {
            due(m.getName() + Arrays.toString(with) + " threw " + e.getCause(), e.getCause() instanceof NoSuchElementException
                    && (m.getName().equals("train") || m.getName().equals("mean")));
        }
    }
}
