import java.lang.reflect.InvocationTargetException;
import java.lang.reflect.Method;
import java.lang.reflect.Modifier;

/** What a house answers, as one text, and calls that are written as texts: "pay 0 5". */
final class Seen {
    private final DebtorsHouse x;
    private final StringBuilder text = new StringBuilder();

    private Seen(DebtorsHouse x) {
        this.x = x;
    }

    /** What can be asked for without doing anything; of many debts each fifth, as there are but 512 calls. */
    static String of(DebtorsHouse x) {
        Seen seen = new Seen(x);
        for (int what = 0; what <= 11; what++) {
            seen.add("count " + what);
        }
        int persons = x.count(0);
        for (int p = 0; p < persons; p++) {
            for (int what = 0; what <= 14; what++) {
                seen.add("tell " + p + " " + what);
            }
            seen.add("offer " + p);
        }
        int debts = x.count(1);
        for (int d = 0; d < debts; d += debts > 10 ? 5 : 1) {
            for (int what = 0; what <= 14; what++) {
                seen.add("about " + d + " " + what);
            }
        }
        int length = x.count(7);
        for (int k = 0; k < length; k++) {
            seen.add("row " + k);
        }
        seen.add("fault 0");
        seen.add("fault 1");
        int acts = persons > 0 ? x.count(3) : 0;
        for (int a = 0; a < acts; a++) {
            for (int topic = 0; topic <= 8; topic++) {
                seen.add("tells 0 " + topic + " " + a);
            }
        }
        seen.add("turn");
        seen.add("good 9999 9999");
        return seen.text.toString();
    }

    /** What these calls answer, one after the other. */
    static String of(DebtorsHouse x, String... calls) {
        Seen seen = new Seen(x);
        for (String call : calls) {
            seen.add(call);
        }
        return seen.text.toString();
    }

    /** The answer of a call that is written as a text; true is 1, false 0. */
    static int answer(DebtorsHouse x, String call) {
        String[] words = call.split(" ");
        for (Method method : DebtorsHouse.class.getDeclaredMethods()) {
            if (Modifier.isPublic(method.getModifiers()) && method.getName().equals(words[0])) {
                return answer(x, method, words);
            }
        }
        throw new IllegalArgumentException(call);
    }

    private static int answer(DebtorsHouse x, Method method, String[] words) {
        Object[] with = new Object[words.length - 1];
        for (int i = 0; i < with.length; i++) {
            boolean truth = method.getParameterTypes()[i] == boolean.class;
            with[i] = truth ? (Object) Boolean.valueOf(words[i + 1]) : (Object) Integer.valueOf(words[i + 1]);
        }
        try {
            Object answer = method.invoke(x, with);
            return answer instanceof Boolean ? (Boolean) answer ? 1 : 0 : (Integer) answer;
        } catch (IllegalAccessException | InvocationTargetException e) {
            throw new IllegalStateException(String.join(" ", words), e);
        }
    }

    private void add(String call) {
        text.append(call).append(" -> ").append(answer(x, call)).append('\n');
    }
}
