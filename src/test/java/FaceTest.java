import java.lang.reflect.Constructor;
import java.lang.reflect.Field;
import java.lang.reflect.Method;
import java.lang.reflect.Modifier;
import java.util.Set;
import java.util.TreeSet;

/** The public face is that of the document, and there is no more of it. */
public final class FaceTest {
    private static final String FACE = "feed/5 cut/1 parcel/0 fault/0 count/2 member/3 about/3 name/4 code/3 steps/1"
            + " seed/1 swap/3 run/1 verdict/3 cover/3 alone/2 told/1 twin/2 rule/5 drop/1 calls/3 mutant/3 kill/1"
            + " killed/3 least/2 property/3 small/1 smaller/2 history/1 op/6 linear/1 place/2 luck/2 share/1 blame/2"
            + " blamed/1 build/2 foretold/2 touch/2";

    public static void main(String[] args) {
        Set<String> face = new TreeSet<>(java.util.List.of(FACE.split(" ")));
        Set<String> found = new TreeSet<>();
        Set<String> names = new TreeSet<>();
        for (Method m : TestHouse.class.getDeclaredMethods()) {
            if (!Modifier.isPrivate(m.getModifiers()) && !m.isSynthetic()) {
                found.add(m.getName() + "/" + m.getParameterCount());
                names.add(m.getName());
                Checks.due(m + " is public", Modifier.isPublic(m.getModifiers()) ? 1 : 0, 1);
                Checks.due(m + " answers an int", m.getReturnType() == int.class ? 1 : 0, 1);
            }
        }
        Checks.due("methods " + found, found.equals(face) ? 1 : 0, 1);
        for (Class<?> c : TestHouse.class.getDeclaredClasses()) {
            Checks.due(c + " is static", Modifier.isStatic(c.getModifiers()) ? 1 : 0, 1);
            for (Method m : c.getDeclaredMethods()) {
                Checks.due(m + " has a name of its own", names.contains(m.getName()) ? 1 : 0, 0);
            }
        }
        for (Method m : TestHouse.class.getDeclaredMethods()) {
            boolean shadows = Modifier.isPrivate(m.getModifiers()) && names.contains(m.getName());
            Checks.due(m + " has a name of its own", shadows ? 1 : 0, 0);
        }
        Set<String> fields = new TreeSet<>();
        for (Field f : TestHouse.class.getDeclaredFields()) {
            if (!Modifier.isPrivate(f.getModifiers())) {
                fields.add(f.getName());
            }
        }
        Checks.due("constants " + fields, fields.equals(Set.of("BAD", "NONE", "FULL", "SPENT", "FINE")) ? 1 : 0, 1);
        Checks.due("BAD", TestHouse.BAD, -1);
        Checks.due("NONE", TestHouse.NONE, -2);
        Checks.due("FULL", TestHouse.FULL, -3);
        Checks.due("SPENT", TestHouse.SPENT, -4);
        Checks.due("FINE", TestHouse.FINE, -5);
        Constructor<?>[] made = TestHouse.class.getDeclaredConstructors();
        Checks.due("constructors", made.length, 1);
        Checks.due("the class is final", Modifier.isFinal(TestHouse.class.getModifiers()) ? 1 : 0, 1);
        Checks.end("FaceTest");
    }
}
