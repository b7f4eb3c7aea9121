import java.lang.reflect.Constructor;
import java.lang.reflect.Field;
import java.lang.reflect.Method;
import java.lang.reflect.Modifier;
import java.util.Arrays;
import java.util.Set;
import java.util.TreeSet;

/** The document's face, and those rules of LANGUAGE.md that can be seen from the compiled class. */
public final class FaceTest {
    private static final String[] FACE = {
        "int table(int,int)", "int place(int,int)", "int carry(int)", "int note()", "int wipe()", "int feed(int)",
        "int read()", "int told(int)", "int noted(int,int)", "long norm(int,int)", "long product(int,int,int,int)",
        "int coat(int,int,int)", "int sort(int,int)", "int lowered(int,int,int)", "int string(int,int,int,int)",
        "int counted(int,int)", "long c(int,int,int)", "int level(int,int)", "long made(int,int)",
        "int signed(int,int)", "int see(int,int,int)", "int fits()", "long odds(int,int)", "long mean(int,int)",
        "int event(int,int)", "long after(int)", "int book(int,int,int)", "int looked()", "int judge(int,int)",
        "int image()", "int undo()", "int count(int)", "int tape(int,int,int)", "int item(int,int,long)",
        "long peek(int,int)", "int shift(int,int,int,int,int)",
    };

    private static final Due due = new Due("FaceTest");

    public static void main(String[] args) {
        methods();
        constants();
        classes();
        due.close();
    }

    private static void methods() {
        Set<String> open = new TreeSet<>();
        Set<String> openNames = new TreeSet<>();
        Set<String> hidden = new TreeSet<>();
        for (Method m : EndlessRoots.class.getDeclaredMethods()) {
            if (Modifier.isPrivate(m.getModifiers())) {
                hidden.add(m.getName());
                continue;
            }
            StringBuilder row = new StringBuilder(m.getReturnType() + " " + m.getName() + "(");
            for (int k = 0; k < m.getParameterCount(); k++) {
                row.append(k == 0 ? "" : ",").append(m.getParameterTypes()[k]);
            }
            open.add(row.append(")").toString());
            openNames.add(m.getName());
            due.holds(m.getName() + " is public and not static", m.getModifiers() == Modifier.PUBLIC);
        }
        due.holds("the methods are the document's: " + open, open.equals(new TreeSet<>(Arrays.asList(FACE))));
        hidden.retainAll(openNames);
        due.holds("no private method bears the name of a public one: " + hidden, hidden.isEmpty());
        Constructor<?>[] made = EndlessRoots.class.getDeclaredConstructors();
        due.holds("there is one constructor, public, without parameters", made.length == 1
            && made[0].getParameterCount() == 0 && Modifier.isPublic(made[0].getModifiers()));
        due.holds("the class is public and final",
            EndlessRoots.class.getModifiers() == (Modifier.PUBLIC | Modifier.FINAL));
    }

    private static void constants() {
        due.is("NONE", EndlessRoots.NONE, -1);
        due.is("BAD", EndlessRoots.BAD, -2);
        due.is("STATE", EndlessRoots.STATE, -3);
        due.is("FULL", EndlessRoots.FULL, -4);
        due.is("NO", EndlessRoots.NO, Long.MIN_VALUE);
        Set<String> open = new TreeSet<>();
        for (Field f : EndlessRoots.class.getDeclaredFields()) {
            if (!Modifier.isPrivate(f.getModifiers())) {
                open.add(f.getName());
            }
            checkField(f);
        }
        due.holds("the constants are the document's: " + open,
            open.equals(new TreeSet<>(Arrays.asList("NONE", "BAD", "STATE", "FULL", "NO"))));
    }

    private static void classes() {
        Class<?>[] inside = EndlessRoots.class.getDeclaredClasses();
        due.holds("there are at most twelve classes", inside.length + 1 <= 12);
        for (Class<?> c : inside) {
            int m = c.getModifiers();
            due.holds(c + " is static, and private or package-visible",
                Modifier.isStatic(m) && !Modifier.isPublic(m) && !Modifier.isProtected(m));
            int held = 0;
            for (Field f : c.getDeclaredFields()) {
                checkField(f);
                held += Modifier.isStatic(f.getModifiers()) ? 0 : 1;
            }
            due.holds(c + " has at most twenty fields", held <= 20);
            for (Method method : c.getDeclaredMethods()) {
                due.holds(method + " takes at most seven", method.getParameterCount() <= 7);
            }
        }
    }

    private static void checkField(Field f) {
        if (Modifier.isStatic(f.getModifiers())) {
            due.holds(f + " is final", Modifier.isFinal(f.getModifiers()));
            Class<?> t = f.getType();
            due.holds(f + " is of a sort that a constant may be", t == int.class || t == long.class
                || t == boolean.class || t == char.class || t == String.class);
        }
    }
}
