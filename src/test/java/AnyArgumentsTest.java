import java.lang.reflect.InvocationTargetException;
import java.lang.reflect.Method;
import java.util.ArrayList;
import java.util.Comparator;
import java.util.List;
import java.util.Random;

/** No call may throw, for any arguments in any state: calls by a fixed seed, near the edges and far from them. */
public final class AnyArgumentsTest {
    private static final int[] EDGES = {Integer.MIN_VALUE, Integer.MIN_VALUE + 1, -65536, -129, -16, -5, -4, -3, -2, -1, 0, 1,
        2, 3, 4, 5, 6, 7, 8, 9, 10, 12, 15, 16, 17, 20, 21, 22, 23, 24, 47, 59, 60, 61, 255, 256, 65536,
        Integer.MAX_VALUE - 1, Integer.MAX_VALUE};
    private static final String[][] TEXTS = {
        {"a15..", "a15.!;b26..;c371.", "a15.!;b26..;c371.;v35..;a19..;k11.!;l22..;x937!", "a15.", ""},
        {"8mm", "8mm;2ab;1xa", "8mm;2ab;1xa;3aa;4wx;8cb", "8m", ""},
        {"0+0", "0+0;1+1;2+0?1", "7+5;0+1;1-1;2+0;3+1;4+0;5+5;6+1;7+0?7", "0+", ""}};

    public static void main(String[] args) throws IllegalAccessException {
        List<Method> calls = new ArrayList<>();
        for (Method method : HabitWill.class.getDeclaredMethods()) {
            if (java.lang.reflect.Modifier.isPublic(method.getModifiers())) {
                calls.add(method);
            }
        }
        calls.sort(Comparator.comparing(Method::getName));
        Random random = new Random(512);
        for (int run = 0; run < 400; run++) {
            HabitWill x = Due.estate(TEXTS[0][random.nextInt(5)], TEXTS[1][random.nextInt(5)], TEXTS[2][random.nextInt(5)]);
            for (int call = 0; call < 380; call++) {
                callOne(x, calls.get(random.nextInt(calls.size())), random);
            }
        }
        Due.end();
    }

    private static void callOne(HabitWill x, Method method, Random random) throws IllegalAccessException {
        Object[] arguments = new Object[method.getParameterCount()];
        StringBuilder name = new StringBuilder(method.getName());
        for (int i = 0; i < arguments.length; i++) {
            int kind = random.nextInt(8);
            arguments[i] = kind == 0 ? random.nextInt() : kind < 3 ? EDGES[random.nextInt(EDGES.length)] : random.nextInt(7);
            name.append(' ').append(arguments[i]);
        }
        boolean well = true;
        try {
            method.invoke(x, arguments);
        } catch (InvocationTargetException thrown) {
            well = false;
            name.append(" threw ").append(thrown.getCause());
        }
        Due.is(name.toString(), well ? 1 : 0, 1);
    }
}
