import java.lang.reflect.Constructor;
import java.lang.reflect.Field;
import java.lang.reflect.Method;
import java.lang.reflect.Modifier;
import java.util.Arrays;
import java.util.TreeSet;

/** The public face, and rule 1 of LANGUAGE.md: nothing else can be seen from outside. */
public final class FaceTest {
    private static final String[] METHODS = {
        "public int BitCopier.form(int,int,int)",
        "public boolean BitCopier.put(int,int,int)",
        "public int BitCopier.word(int,int)",
        "public int BitCopier.bit(int,int,int)",
        "public int BitCopier.count(int)",
        "public boolean BitCopier.same(int,int)",
        "public boolean BitCopier.forms(int,int,int)",
        "public boolean BitCopier.rule(int)",
        "public boolean BitCopier.set(int,int,int)",
        "public int BitCopier.order(int,boolean)",
        "public int BitCopier.copy()",
        "public int BitCopier.line(int,int)",
    };

    public static void main(String[] args) {
        Check.due("NONE", BitCopier.NONE, -1);
        Check.due("public", Modifier.isPublic(BitCopier.class.getModifiers()), true);
        Check.due("final", Modifier.isFinal(BitCopier.class.getModifiers()), true);
        methods();
        fields();
        constructors();
        Check.end();
    }

    private static void methods() {
        TreeSet<String> seen = new TreeSet<>();
        TreeSet<String> publicNames = new TreeSet<>();
        for (Method m : BitCopier.class.getDeclaredMethods()) {
            if (!Modifier.isPrivate(m.getModifiers()) && !m.isSynthetic()) {
                seen.add(m.toString());
                publicNames.add(m.getName());
            }
        }
        TreeSet<String> due = new TreeSet<>(Arrays.asList(METHODS));
        Check.due("methods " + seen, seen.equals(due), true);
        for (Method m : BitCopier.class.getDeclaredMethods()) {
            if (Modifier.isPrivate(m.getModifiers())) {
                Check.due("private " + m.getName(), publicNames.contains(m.getName()), false);
            }
        }
    }

    private static void fields() {
        for (Field f : BitCopier.class.getDeclaredFields()) {
            boolean hidden = Modifier.isPrivate(f.getModifiers());
            Check.due("private " + f.getName(), hidden, !f.getName().equals("NONE"));
            if (Modifier.isStatic(f.getModifiers())) {
                Check.due("final " + f.getName(), Modifier.isFinal(f.getModifiers()), true);
            }
        }
    }

    private static void constructors() {
        Constructor<?>[] all = BitCopier.class.getDeclaredConstructors();
        Check.due("constructors", all.length, 1);
        Check.due("its parameters", all[0].getParameterCount(), 0);
        Check.due("is public", Modifier.isPublic(all[0].getModifiers()), true);
    }
}
