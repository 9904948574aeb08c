import java.lang.reflect.Constructor;
import java.lang.reflect.Field;
import java.lang.reflect.InvocationTargetException;
import java.lang.reflect.Method;
import java.lang.reflect.Modifier;
import java.util.Random;
import java.util.TreeSet;

/** "The public face": just the members that the document lists, and no call that throws. */
public final class FaceTest {
    private static final Check CHECK = new Check();
    private static final String[] FACE = {
        "boolean key(int, int)",
        "boolean need(int, int, int, int)",
        "boolean change(int, int, int, int)",
        "int seal(int, int)",
        "int update(int, int, int)",
        "boolean arm(int)",
        "boolean tick(int)",
        "boolean deliver(int)",
        "boolean drop(int)",
        "boolean alter(int)",
        "boolean crash(int)",
        "boolean restart(int)",
        "int messages()",
        "int message(int)",
        "int serial(int)",
        "int size(int)",
        "boolean has(int, int, int, int)",
        "int query(int, int, int)",
        "int state(int)",
        "int journal()",
    };
    private static final int[] EDGES = {
        Integer.MIN_VALUE, Integer.MIN_VALUE + 1, -6, -1, 9, 21, 24, 99, Integer.MAX_VALUE - 1, Integer.MAX_VALUE
    };
    private static final int OBJECTS = 40;
    private static final int CALLS = 4000;

    public static void main(String[] args) throws ReflectiveOperationException {
        isAPublicFinalClass();
        hasOneConstructor();
        hasTheMethodsOfTheDocument();
        showsNothingElse();
        neverThrows();
        CHECK.end();
    }

    private static void isAPublicFinalClass() {
        int modifiers = ZoneNodes.class.getModifiers();
        CHECK.yes("the class is public", Modifier.isPublic(modifiers));
        CHECK.yes("the class is final", Modifier.isFinal(modifiers));
        CHECK.yes("the class has no package", ZoneNodes.class.getPackageName().isEmpty());
    }

    private static void hasOneConstructor() {
        Constructor<?>[] all = ZoneNodes.class.getDeclaredConstructors();
        CHECK.due("constructors", all.length, 1);
        CHECK.yes("it is that of the document", all[0].toString().equals("public ZoneNodes(int,int,int,int)"));
    }

    private static void hasTheMethodsOfTheDocument() {
        TreeSet<String> shown = new TreeSet<>();
        for (Method method : ZoneNodes.class.getDeclaredMethods()) {
            if (Modifier.isPublic(method.getModifiers())) {
                shown.add(told(method));
            }
        }
        for (String line : FACE) {
            CHECK.yes(line + " is there", shown.remove(line));
        }
        CHECK.due("other public methods " + shown, shown.size(), 0);
    }

    private static String told(Method method) {
        StringBuilder text = new StringBuilder();
        text.append(method.getReturnType().getName()).append(' ').append(method.getName()).append('(');
        for (int i = 0; i < method.getParameterCount(); i++) {
            text.append(i > 0 ? ", " : "").append(method.getParameterTypes()[i].getName());
        }
        return text.append(')').toString();
    }

    private static void showsNothingElse() {
        TreeSet<String> publicNames = new TreeSet<>();
        for (Method method : ZoneNodes.class.getMethods()) {
            publicNames.add(method.getName());
        }
        for (Method method : ZoneNodes.class.getDeclaredMethods()) {
            if (!Modifier.isPublic(method.getModifiers())) {
                CHECK.yes(method + " is private", Modifier.isPrivate(method.getModifiers()));
                CHECK.no(method + " bears a public name", publicNames.contains(method.getName()));
            }
        }
        for (Field field : ZoneNodes.class.getDeclaredFields()) {
            CHECK.yes(field + " is private", Modifier.isPrivate(field.getModifiers()));
        }
        for (Class<?> inside : ZoneNodes.class.getDeclaredClasses()) {
            CHECK.yes(inside + " is static", Modifier.isStatic(inside.getModifiers()));
            CHECK.no(inside + " is public", Modifier.isPublic(inside.getModifiers()));
            CHECK.no(inside + " is protected", Modifier.isProtected(inside.getModifiers()));
        }
    }

    /** What calls answer after the 512th is free, but they may not throw either. */
    private static void neverThrows() throws ReflectiveOperationException {
        Method[] methods = new Method[FACE.length];
        int found = 0;
        for (Method method : ZoneNodes.class.getDeclaredMethods()) {
            if (Modifier.isPublic(method.getModifiers()) && found < methods.length) {
                methods[found++] = method;
            }
        }
        for (int seed = 0; seed < OBJECTS; seed++) {
            CHECK.due("calls that threw, of seed " + seed, callAtRandom(methods, new Random(seed)), 0);
        }
    }

    private static int callAtRandom(Method[] methods, Random random) throws IllegalAccessException {
        ZoneNodes zone = new ZoneNodes(number(random), number(random), number(random), number(random));
        zone.key(0, number(random));
        int threw = 0;
        int clock = 0;
        for (int i = 0; i < CALLS; i++) {
            Method method = methods[random.nextInt(methods.length)];
            Object[] numbers = new Object[method.getParameterCount()];
            for (int n = 0; n < numbers.length; n++) {
                numbers[n] = number(random);
            }
            try {
                Object answer = method.invoke(zone, numbers);
                if (method.getName().equals("tick") && answer.equals(true)) {
                    clock += (Integer) numbers[0];
                }
                if (random.nextInt(4) == 0) {
                    zone.update(0, clock, zone.seal(0, clock));
                    zone.deliver(0);
                }
            } catch (InvocationTargetException | RuntimeException thrown) {
                System.out.println(method + " threw " + thrown);
                threw++;
            }
        }
        return threw;
    }

    private static int number(Random random) {
        return random.nextInt(4) == 0 ? EDGES[random.nextInt(EDGES.length)] : random.nextInt(8);
    }
}
