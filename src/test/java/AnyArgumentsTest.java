import java.lang.reflect.InvocationTargetException;
import java.lang.reflect.Method;
import java.lang.reflect.Modifier;
import java.util.ArrayList;
import java.util.Arrays;
import java.util.Comparator;
import java.util.List;

/** Any arguments in any state: no call throws but what the document names, and a refused one changes nothing. */
public final class AnyArgumentsTest {
    private static final int[] NUMBERS = {Integer.MIN_VALUE, Integer.MIN_VALUE + 1, -1001, -15, -2, -1, 0, 0, 0, 1, 1, 1, 2, 2, 3, 4, 5, 6, 7, 8, 11, 12, 13, 15, 16,
        20, 21, 31, 32, 79, 80, 81, 149, 150, 151, 520, 521, 1000, 1001, Integer.MAX_VALUE - 1, Integer.MAX_VALUE};
    private static long seed = 5;
    private static int wrong;

    private static int random(int n) {
        seed = seed * 6364136223846793005L + 1442695040888963407L;
        return (int) ((seed >>> 33) % n);
    }

    private static Object[] arguments(Method m, boolean small) {
        Object[] a = new Object[m.getParameterCount()];
        for (int i = 0; i < a.length; i++) {
            if (m.getParameterTypes()[i] == boolean.class) a[i] = random(2) == 0;
            else a[i] = small ? random(7) : NUMBERS[random(NUMBERS.length)];
        }
        return a;
    }

    private static String call(HourValley x, Method m, Object[] a) throws IllegalAccessException {
        try {
            return String.valueOf(m.invoke(x, a));
        } catch (InvocationTargetException e) {
            Class<?> c = e.getCause().getClass();
            boolean named = Arrays.asList(m.getExceptionTypes()).contains(c);
            if (!named) tell(m, a, "threw " + e.getCause());
            return "throws";
        }
    }

    private static void tell(Method m, Object[] a, String what) {
        wrong++;
        System.out.println(m.getName() + Arrays.toString(a) + " " + what);
    }

    private static boolean refused(Method m, String answer) {
        return answer.equals("throws") || (answer.startsWith("-") && !m.getName().equals("element") && !m.getName().equals("balance"));
    }

    private static void run(List<Method> face) throws IllegalAccessException {
        HourValley x = new HourValley();
        int folk = random(13), often = 1 + random(9);
        for (int i = 0; i < folk; i++) x.folk(random(5), random(3), random(32));
        for (int i = 0; i < 512; i++) {
            Method m = face.get(random(face.size()));
            Object[] a = arguments(m, random(10) < often);
            boolean look = i % 16 == 0;
            String before = look ? State.of(x) : "";
            String answer = call(x, m, a);
            if (look && refused(m, answer) && !State.of(x).equals(before)) tell(m, a, "was refused and changed something");
        }
    }

    public static void main(String[] args) throws IllegalAccessException {
        List<Method> face = new ArrayList<>();
        for (Method m : HourValley.class.getDeclaredMethods()) if (Modifier.isPublic(m.getModifiers())) face.add(m);
        face.sort(Comparator.comparing(Method::getName));
        for (int i = 0; i < 300 && wrong == 0; i++) run(face);
        System.out.println("AnyArgumentsTest: " + (wrong == 0 ? "nothing thrown but what the document names" : "wrong"));
        if (wrong != 0) System.exit(1);
    }
}
