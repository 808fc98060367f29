import java.lang.reflect.InvocationTargetException;
import java.lang.reflect.Method;
import java.lang.reflect.Modifier;
import java.util.ArrayList;
import java.util.Comparator;
import java.util.List;
import java.util.Random;

/** Calls of all kinds with arguments of all kinds: nothing is thrown but what element() is to throw. */
public final class WildArguments {
    private static final int[] WILD = {
        Integer.MIN_VALUE, Integer.MIN_VALUE + 1, -1000000000, -65536, -129, -128, -101, -14, -4, -3, -2, -1, 7, 8, 9, 10, 40, 60, 61,
        73, 99, 100, 101, 127, 128, 199, 200, 201, 255, 256, 999, 1000, 32767, 32768, 65536, 1000000000, Integer.MAX_VALUE - 1, Integer.MAX_VALUE };
    private static final String[] TEXTS = {
        "p4;p5h1;p3;r1 1;r2 2;x0 20;u0 1w9;d0 2lw5;u3 0;", "p2;p2;p3;x0 23;d7 2lw0;u2 2lw5;d0 3lw0;u1 2w5;d8 1lw3;",
        "p9;p9;p9;p9;p9;p9;p9;p9;r1 0;r7 4;u0 3l;d0 3;", "u0 1;d0 1;", "p3;", "x0 55;v0 1;", "p3;p3;x0 50;u0 1;d0 1;u0 1;d0 1;u0 1;d0 1;u0 1;",
        "p", "", "x1 77;x2 49;v0 1;v1 2;" };

    public static void main(String[] args) throws IllegalAccessException {
        List<Method> face = new ArrayList<>();
        for (Method m : WhoBacks.class.getDeclaredMethods()) if (Modifier.isPublic(m.getModifiers())) face.add(m);
        face.sort(Comparator.comparing(Method::getName));
        Random random = new Random(3);
        int wrong = 0;
        for (int run = 0; run < 300; run++) {
            WhoBacks w = new WhoBacks();
            for (int i = 0; i < 300; i++) {
                if (random.nextInt(25) == 0) Due.road(w, TEXTS[random.nextInt(TEXTS.length)]);
                Method m = face.get(random.nextInt(face.size()));
                if (m.getName().equals("best") && random.nextInt(8) != 0) continue;
                if (!isQuiet(w, m, arguments(m, random))) wrong++;
            }
        }
        System.out.println("WildArguments: " + wrong + " calls threw what they mustn't");
        if (wrong != 0) System.exit(1);
    }

    private static Object[] arguments(Method m, Random random) {
        Object[] arguments = new Object[m.getParameterCount()];
        for (int i = 0; i < arguments.length; i++) {
            arguments[i] = random.nextInt(4) == 0 ? WILD[random.nextInt(WILD.length)] : random.nextInt(6);
        }
        return arguments;
    }

    private static boolean isQuiet(WhoBacks w, Method m, Object[] arguments) throws IllegalAccessException {
        try {
            m.invoke(w, arguments);
            return true;
        } catch (InvocationTargetException e) {
            Throwable t = e.getCause();
            boolean due = m.getName().equals("element") && (t.getClass() == IllegalArgumentException.class || t.getClass() == IllegalStateException.class);
            if (!due) System.out.println(m.getName() + java.util.Arrays.toString(arguments) + " threw " + t);
            return due;
        }
    }
}
