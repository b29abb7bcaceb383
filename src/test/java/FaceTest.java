import java.lang.reflect.Constructor;
import java.lang.reflect.Field;
import java.lang.reflect.Method;
import java.lang.reflect.Modifier;
import java.util.Set;
import java.util.TreeSet;

/** The face of the class is the document's, and nothing else of it can be seen from outside. */
public final class FaceTest {
    private static final String DUE = "answers(int,int,boolean)int choice(int,int)int count(int)int cut(int,int)int"
            + " days(int)int fault()int feed(int,int,int,int,int)int fewest(int)int gap(int)int get(int,int)int"
            + " gift(int,int)int give(int,int,int,int)int image()void judge(int,int,int,int)int keep(int,int)int"
            + " order(int)int person(int,int)int restore()boolean round(int,int)int sets(int)int still()int"
            + " thing(int,int)int town(int)int undo()int week(int)int";

    public static void main(String[] args) {
        Set<String> face = new TreeSet<>();
        Set<String> names = new TreeSet<>();
        for (Method m : HeavyGifts.class.getDeclaredMethods()) {
            if (!Modifier.isPrivate(m.getModifiers())) {
                face.add(told(m));
                names.add(m.getName());
            }
        }
        String got = String.join(" ", face);
        Check.same("the face is as due, not " + got, 1, () -> got.equals(DUE) ? 1 : 0);
        int fields = 0;
        for (Field f : HeavyGifts.class.getDeclaredFields()) {
            fields += Modifier.isPrivate(f.getModifiers()) ? 0 : 1;
        }
        int seen = fields;
        Check.same("fields that can be seen", 1, () -> seen);
        Constructor<?>[] all = HeavyGifts.class.getDeclaredConstructors();
        Check.same("constructors", 1, () -> all.length);
        Check.same("public and final", 1, () -> Modifier.isPublic(all[0].getModifiers())
                && Modifier.isFinal(HeavyGifts.class.getModifiers()) ? 1 : 0);
        for (Class<?> inside : HeavyGifts.class.getDeclaredClasses()) {
            for (Method m : inside.getDeclaredMethods()) {
                Check.same(inside + " " + m.getName() + " bears a name of the face", 0,
                        () -> names.contains(m.getName()) ? 1 : 0);
            }
        }
        Check.same("NONE", -1, () -> HeavyGifts.NONE);
        Check.end();
    }

    private static String told(Method m) {
        StringBuilder b = new StringBuilder(m.getName()).append('(');
        for (Class<?> p : m.getParameterTypes()) {
            b.append(b.charAt(b.length() - 1) == '(' ? "" : ",").append(p.getName());
        }
        return b.append(')').append(m.getReturnType().getName()).toString();
    }
}
