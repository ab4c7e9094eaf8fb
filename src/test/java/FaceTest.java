import java.lang.reflect.Constructor;
import java.lang.reflect.Field;
import java.lang.reflect.Method;
import java.lang.reflect.Modifier;
import java.util.HashSet;
import java.util.Set;
import java.util.TreeMap;

/** The face of the document: every constant, the constructor and every method, and nothing else that can be seen. */
public final class FaceTest {
    private static final Due due = new Due("FaceTest");
    private static final String METHODS = "house 2 houseTold 2 change 3 agree 3 patience 1 deal 1 door 2 doorTold 2 set 3 wire 3 "
        + "thief 2 told 2 as 2 turns 2 at 3 heed 2 choice 1 nights 1 seed 1 pair 1 wiring 0 unlawful 1 worst 1 heard 1 fewest 0 "
        + "alike 0 feed 3 trim 1 text 0 textTold 2 why 1 sheet 3 mark 3 pour 1 reads 1 copy 5 lay 3 ask 2 item 2 rest 2 tell 1 "
        + "check 1 keep 0 back 0 count 1";
    private static final String[] CONSTANTS = {"BAD", "NO", "FULL", "NONE", "NOTHING", "KIND", "INDEX", "SIZE"};
    private static final int[] VALUES = {-1000000001, -1000000002, -1000000003, -1000000005, -1000000011, -1000000012, -1000000013, -1000000014};

    public static void main(String[] args) throws ReflectiveOperationException {
        due.holds("the class is public and final", Modifier.isPublic(TwoBells.class.getModifiers()) && Modifier.isFinal(TwoBells.class.getModifiers()));
        methods();
        constants();
        constructors();
        classesInside();
        due.end();
    }

    private static TreeMap<String, Integer> wanted() {
        TreeMap<String, Integer> wanted = new TreeMap<>();
        String[] words = METHODS.split(" ");
        for (int i = 0; i < words.length; i += 2) {
            wanted.put(words[i], Integer.parseInt(words[i + 1]));
        }
        return wanted;
    }

    private static void methods() {
        TreeMap<String, Integer> wanted = wanted();
        due.is("methods of the document", 45, wanted.size());
        Set<String> seen = new HashSet<>();
        for (Method m : TwoBells.class.getDeclaredMethods()) {
            if (Modifier.isPrivate(m.getModifiers()) || m.isSynthetic()) {
                due.holds("private and named as a public one: " + m.getName(), m.isSynthetic() || !wanted.containsKey(m.getName()));
                continue;
            }
            due.holds("asked for: " + m.getName(), wanted.containsKey(m.getName()) && seen.add(m.getName()));
            due.holds("public int: " + m.getName(), m.getModifiers() == Modifier.PUBLIC && m.getReturnType() == int.class);
            due.is("parameters of " + m.getName(), wanted.getOrDefault(m.getName(), -1), m.getParameterCount());
            for (Class<?> p : m.getParameterTypes()) {
                due.holds("int parameter of " + m.getName(), p == int.class);
            }
        }
        due.is("methods", 45, seen.size());
    }

    private static void constants() throws ReflectiveOperationException {
        int seen = 0;
        for (Field f : TwoBells.class.getDeclaredFields()) {
            if (!Modifier.isPrivate(f.getModifiers())) {
                seen++;
                due.is("modifiers of " + f.getName(), Modifier.PUBLIC | Modifier.STATIC | Modifier.FINAL, f.getModifiers());
            }
        }
        due.is("constants", CONSTANTS.length, seen);
        for (int i = 0; i < CONSTANTS.length; i++) {
            due.is(CONSTANTS[i], VALUES[i], TwoBells.class.getField(CONSTANTS[i]).getInt(null));
        }
    }

    private static void constructors() {
        Constructor<?>[] all = TwoBells.class.getDeclaredConstructors();
        due.is("constructors", 1, all.length);
        due.holds("public, without parameters", all[0].getModifiers() == Modifier.PUBLIC && all[0].getParameterCount() == 0);
    }

    private static void classesInside() {
        TreeMap<String, Integer> wanted = wanted();
        Class<?>[] inside = TwoBells.class.getDeclaredClasses();
        due.holds("at most twelve classes", inside.length + 1 <= 12);
        for (Class<?> c : inside) {
            int mods = c.getModifiers();
            due.holds("static, not public: " + c.getName(), Modifier.isStatic(mods) && !Modifier.isPublic(mods) && !Modifier.isProtected(mods));
            for (Method m : c.getDeclaredMethods()) {
                due.holds("not named as a public one: " + m.getName(), m.isSynthetic() || !wanted.containsKey(m.getName()));
                due.holds("at most seven parameters: " + m.getName(), m.getParameterCount() <= 7);
            }
            int fields = 0;
            for (Field f : c.getDeclaredFields()) {
                boolean constant = Modifier.isStatic(f.getModifiers()) && Modifier.isFinal(f.getModifiers());
                due.holds("no static state: " + f.getName(), constant || !Modifier.isStatic(f.getModifiers()));
                fields += constant ? 0 : 1;
            }
            due.holds("at most twenty fields: " + c.getName(), fields <= 20);
        }
    }
}
