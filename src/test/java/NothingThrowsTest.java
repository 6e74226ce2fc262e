import java.lang.reflect.InvocationTargetException;
import java.lang.reflect.Method;
import java.lang.reflect.Modifier;
import java.util.ArrayList;
import java.util.Comparator;
import java.util.List;
import java.util.Random;

/** Every call, with numbers from anywhere, in every state that chance leads to: none of them throws. */
public final class NothingThrowsTest {
    private static final int[] EDGES = {Integer.MIN_VALUE, Integer.MAX_VALUE, -1000000, -100001, -101, -3, -2, -1, 10, 11, 12,
        13, 14, 15, 20, 23, 24, 31, 32, 39, 40, 41, 63, 64, 99, 100, 101, 500, 581, 600, 601, 999, 1000, 1001, 9999, 10000,
        10001, 100000, 100001, 1000000, 1000001};

    private static final Check check = new Check();

    public static void main(String[] args) throws IllegalAccessException {
        List<Method> calls = new ArrayList<>();
        for (Method m : DebtorsHouse.class.getDeclaredMethods()) {
            if (Modifier.isPublic(m.getModifiers())) {
                calls.add(m);
            }
        }
        calls.sort(Comparator.comparing(Method::getName));
        for (int seed = 0; seed < 400; seed++) {
            run(calls, new Random(seed));
        }
        check.finish();
    }

    private static void run(List<Method> calls, Random dice) throws IllegalAccessException {
        DebtorsHouse x = new DebtorsHouse();
        int persons = dice.nextInt(13);
        for (int i = 0; i < persons; i++) {
            x.person(dice.nextInt(2000), dice.nextInt(10));
        }
        for (int i = 0; i < 512; i++) {
            if (dice.nextInt(60) == 0) {
                Check.act(x, "held:1;walk if hour<20:yes;entry:99999;daily:99999;keep:50;number:10;worth:10;", dice.nextInt(3));
            }
            one(x, calls.get(dice.nextInt(calls.size())), dice);
        }
    }

    private static void one(DebtorsHouse x, Method call, Random dice) throws IllegalAccessException {
        Object[] with = new Object[call.getParameterCount()];
        StringBuilder text = new StringBuilder(call.getName());
        for (int i = 0; i < with.length; i++) {
            boolean truth = call.getParameterTypes()[i] == boolean.class;
            with[i] = truth ? (Object) dice.nextBoolean() : (Object) number(dice);
            text.append(' ').append(with[i]);
        }
        boolean threw = false;
        try {
            call.invoke(x, with);
        } catch (InvocationTargetException e) {
            threw = true;
            System.out.println(e.getCause());
        }
        check.due(text.toString(), threw, false);
    }

    private static int number(Random dice) {
        int kind = dice.nextInt(10);
        return kind == 0 ? dice.nextInt() : kind < 3 ? EDGES[dice.nextInt(EDGES.length)] : dice.nextInt(kind < 8 ? 6 : 300);
    }
}
