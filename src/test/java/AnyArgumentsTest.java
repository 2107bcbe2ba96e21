import java.lang.reflect.InvocationTargetException;
import java.lang.reflect.Method;
import java.lang.reflect.Modifier;
import java.util.ArrayList;
import java.util.Comparator;
import java.util.List;
import java.util.Random;

/** No call throws, whatever its arguments and whatever was called ahead of it (LANGUAGE.md, rule 7). */
public final class AnyArgumentsTest {
    private static final int[] NUMBERS = {
        Integer.MIN_VALUE, Integer.MIN_VALUE + 1, -3650, -2, -1, 0, 1, 2, 3, 4, 9, 10, 11, 12, 13, 19, 20, 21, 22, 29, 30,
        31, 40, 50, 59, 60, 61, 100, 101, 200, 364, 365, 500, 700, 701, 1000, 3649, 3650, 4095, 4096, 9999, 10000, 99999,
        100000, 1 << 30, 1 << 31, 0x636c6f67, 0x20353b20, Integer.MAX_VALUE - 1, Integer.MAX_VALUE
    };
    private static final Due due = new Due();

    public static void main(String[] args) throws IllegalAccessException {
        List<Method> methods = new ArrayList<>();
        for (Method method : RainStreets.class.getDeclaredMethods()) {
            if (Modifier.isPublic(method.getModifiers())) {
                methods.add(method);
            }
        }
        methods.sort(Comparator.comparing(Method::getName));
        for (int run = 0; run < 600; run++) {
            RainStreets x = run % 3 == 0 ? Twins.empty() : run % 3 == 1 ? Twins.lively() : Twins.full();
            Random random = new Random(run);
            // The fullest object has some 240 calls behind it; it's good for 512.
            for (int call = 0; call < 270; call++) {
                answers(x, methods.get(random.nextInt(methods.size())), random);
            }
        }
        due.end();
    }

    private static void answers(RainStreets x, Method method, Random random) throws IllegalAccessException {
        Object[] arguments = new Object[method.getParameterCount()];
        StringBuilder call = new StringBuilder(method.getName());
        // Half of the calls ask for what may be there, half for anything.
        int many = random.nextBoolean() ? 14 : NUMBERS.length;
        for (int i = 0; i < arguments.length; i++) {
            boolean isNumber = method.getParameterTypes()[i] == int.class;
            arguments[i] = isNumber ? NUMBERS[many == 14 ? 4 + random.nextInt(10) : random.nextInt(many)] : random.nextBoolean();
            call.append(' ').append(arguments[i]);
        }
        try {
            method.invoke(x, arguments);
            due.yes(call.toString(), true);
        } catch (InvocationTargetException e) {
            due.yes(call + " threw " + e.getCause(), false);
        }
    }
}
