import java.io.IOException;
import java.lang.reflect.Method;
import java.lang.reflect.Modifier;
import java.nio.file.Files;
import java.nio.file.Path;
import java.util.HashMap;
import java.util.HashSet;
import java.util.Map;
import java.util.Set;
import java.util.regex.Matcher;
import java.util.regex.Pattern;

/** README.md shows every call, and each that it shows answers what stands behind it. */
public final class ReadmeTest {
    private static final Check check = new Check();

    private static final Pattern BLOCK = Pattern.compile("(?s)```java\n(.*?)```");
    private static final Pattern CALL =
        Pattern.compile("(?:int (\\w+) = )?house\\.(\\w+)\\((.*)\\); *// (-?\\d+|true|false)(?:: .+)?");

    private static final Set<String> shown = new HashSet<>();
    private static final Map<String, String> names = new HashMap<>();
    private static DebtorsHouse house = null;

    public static void main(String[] args) throws IOException {
        Matcher block = BLOCK.matcher(Files.readString(Path.of("README.md")));
        while (block.find()) {
            for (String line : block.group(1).split("\n")) {
                run(line);
            }
        }
        for (Method method : DebtorsHouse.class.getDeclaredMethods()) {
            if (Modifier.isPublic(method.getModifiers())) {
                check.due("README.md shows " + method.getName(), shown.contains(method.getName()), true);
            }
        }
        check.finish();
    }

    private static void run(String line) {
        if (line.equals("DebtorsHouse house = new DebtorsHouse();")) {
            house = new DebtorsHouse();
            names.clear();
            names.put("DebtorsHouse.NONE", "-1");
            return;
        }
        Matcher call = CALL.matcher(line);
        boolean read = call.matches();
        check.due("README.md has a call with its answer: " + line, read, true);
        if (read) {
            shown.add(call.group(2));
            int answer = Seen.answer(house, call.group(2) + numbers(call.group(3)));
            check.due("README.md: " + line, answer, due(call.group(4)));
            names.put(call.group(1), String.valueOf(answer));
        }
    }

    private static String numbers(String parameters) {
        StringBuilder text = new StringBuilder();
        for (String parameter : parameters.isEmpty() ? new String[0] : parameters.split(", ")) {
            String number = names.getOrDefault(parameter, parameter);
            text.append(' ').append(number.startsWith("0x") ? String.valueOf(Integer.decode(number)) : number);
        }
        return text.toString();
    }

    private static int due(String answer) {
        switch (answer) {
            case "true": return 1;
            case "false": return 0;
            default: return Integer.parseInt(answer);
        }
    }
}
