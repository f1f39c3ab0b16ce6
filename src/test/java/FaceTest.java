import java.lang.reflect.Constructor;
import java.lang.reflect.Field;
import java.lang.reflect.Method;
import java.lang.reflect.Modifier;
import java.util.Arrays;
import java.util.Set;
import java.util.TreeSet;

/** The public face is that of the document, and nothing else can be seen. */
public final class FaceTest {
    private static final String[] METHODS = {
        "int type(int)", "int clear()", "int republic()", "int person(int,int)", "int quarrels(int)",
        "int name(int,int)", "int bill(int,int)", "int now(int)", "int hurts(int,int)", "int deeds(int)",
        "int earns(int,int)", "int names(int,int)", "int laws(int)", "int year()", "int undo()",
        "int apart(int)", "int cheapest(int)", "int tells(int,int)", "int record(int,int)", "int forget()",
        "int who()", "int which(int)", "int married(int)", "int odds(int,int,int,int)", "int rate(int,int)",
        "int keep(int)", "int back(int)", "int count(int)", "long trace()"};

    public static void main(String[] args) {
        Set<String> publicNames = new TreeSet<>();
        Set<String> seen = new TreeSet<>();
        for (Method m : OneJohn.class.getDeclaredMethods()) {
            if (!Modifier.isPrivate(m.getModifiers()) && !m.isSynthetic()) {
                seen.add(shown(m));
                publicNames.add(m.getName());
                Due.is("public " + m, Modifier.isPublic(m.getModifiers()) ? 1 : 0, 1);
                Due.is("static " + m, Modifier.isStatic(m.getModifiers()) ? 1 : 0, 0);
            }
        }
        Set<String> wanted = new TreeSet<>(Arrays.asList(METHODS));
        Due.is("the methods " + seen, seen.equals(wanted) ? 1 : 0, 1);
        for (Method m : OneJohn.class.getDeclaredMethods()) {
            if (Modifier.isPrivate(m.getModifiers())) {
                Due.is("private " + m.getName(), publicNames.contains(m.getName()) ? 1 : 0, 0);
            }
        }
        Set<String> fields = new TreeSet<>();
        for (Field f : OneJohn.class.getDeclaredFields()) {
            if (!Modifier.isPrivate(f.getModifiers()) && !f.isSynthetic()) {
                fields.add(f.getName());
            }
        }
        Due.is("the constants " + fields,
            fields.equals(new TreeSet<>(Arrays.asList("BAD", "STATE", "FULL", "NONE", "NO"))) ? 1 : 0, 1);
        Constructor<?>[] made = OneJohn.class.getDeclaredConstructors();
        Due.is("constructors", made.length, 1);
        Due.is("the constructor's arguments", made[0].getParameterCount(), 0);
        Due.is("the class is final", Modifier.isFinal(OneJohn.class.getModifiers()) ? 1 : 0, 1);
        Due.is("BAD", OneJohn.BAD, -1);
        Due.is("STATE", OneJohn.STATE, -2);
        Due.is("FULL", OneJohn.FULL, -3);
        Due.is("NONE", OneJohn.NONE, -9);
        Due.is("NO", OneJohn.NO, -1000000);
        Due.end();
    }

    private static String shown(Method m) {
        StringBuilder s = new StringBuilder();
        s.append(m.getReturnType().getName()).append(' ').append(m.getName()).append('(');
        for (int i = 0; i < m.getParameterCount(); i++) {
            s.append(i == 0 ? "" : ",").append(m.getParameterTypes()[i].getName());
        }
        return s.append(')').toString();
    }
}
