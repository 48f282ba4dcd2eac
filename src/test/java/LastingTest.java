import java.lang.reflect.InvocationTargetException;
import java.lang.reflect.Method;
import java.util.ArrayList;
import java.util.List;
import java.util.Random;

/**
 * Any arguments in any state, far beyond the 512th call: a call ends normally or throws exactly
 * one of the classes that it declares, never a subclass that the machine throws.
 */
final class LastingTest {
    private static final int[] EDGES = {Integer.MIN_VALUE, -1000, -2, -1, 0, 1, 2, 3, 4, 5, 6, 7, 19, 20, 21,
        62, 63, 64, 999, 1000, 1 << 29, 1 << 30, Integer.MAX_VALUE};

    private static Object[] arguments(Method method, Random random, boolean tame) {
        Class<?>[] types = method.getParameterTypes();
        Object[] chosen = new Object[types.length];
        for (int k = 0; k < types.length; k++) {
            if (types[k] == boolean.class) {
                chosen[k] = random.nextBoolean();
            } else {
                chosen[k] = tame ? random.nextInt(k == 0 ? 2 : 3) : EDGES[random.nextInt(EDGES.length)];
            }
        }
        return chosen;
    }

    private static void call(MailSync x, Method method, Object[] arguments) throws IllegalAccessException {
        try {
            method.invoke(x, arguments);
        } catch (InvocationTargetException wrapped) {
            Throwable thrown = wrapped.getCause();
            for (Class<?> declared : method.getExceptionTypes()) {
                if (declared == thrown.getClass()) {
                    return;
                }
            }
            Check.told(method.getName(), thrown.toString(), "no such exception");
        }
    }

    private static void anything(long seed) throws IllegalAccessException {
        Random random = new Random(seed);
        List<Method> methods = new ArrayList<>(List.of(MailSync.class.getDeclaredMethods()));
        methods.removeIf(method -> !java.lang.reflect.Modifier.isPublic(method.getModifiers()));
        methods.sort((one, other) -> one.getName().compareTo(other.getName()));
        MailSync x = new MailSync();
        for (int k = 0; k < 20000; k++) {
            Method method = methods.get(random.nextInt(methods.size()));
            call(x, method, arguments(method, random, random.nextInt(4) != 0));
        }
        Check.same("checksum is steady", x.checksum(), x.checksum());
    }

    // A copy that is never synced again goes on growing; beyond the 512th call it may stop, not break.
    private static void growing() {
        MailSync x = new MailSync();
        x.sync(0, 0);
        x.add(0, 0, 0);
        for (int round = 0; round < 500; round++) {
            for (int k = 0; k < 8; k++) {
                x.planNew(0, 0, 1, 1);
            }
            x.playBack(0);
            x.clean(0);
            x.view(0, 0, round, 0);
        }
        x.settle();
        Check.same("settled", x.different(0, 0), 0);
    }

    public static void main(String[] args) throws IllegalAccessException {
        for (long seed = 0; seed < 10; seed++) {
            anything(seed);
        }
        growing();
        Check.end();
    }
}
