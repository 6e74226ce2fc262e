import java.io.IOException;
import java.lang.reflect.Field;
import java.lang.reflect.Method;
import java.lang.reflect.Modifier;
import java.nio.file.Files;
import java.nio.file.Path;
import java.util.Arrays;
import java.util.TreeSet;
import java.util.regex.Matcher;
import java.util.regex.Pattern;

/** The rules of LANGUAGE.md that can be seen from the text of the class and from its face. */
public final class LanguageTest {
    private static final Check check = new Check();

    private static final String[] FACE = {
        "int person(int,int)", "int debt(int,int,int,int,int,int)", "int costs(int,int)", "int pay(int,int)",
        "int about(int,int)", "int ring()", "int row(int)", "int net()", "int feed(int,int,int,int,int)", "int end(int)",
        "int act(int)", "int fault(int)", "int good(int,int)", "int tells(int,int,int)", "boolean lawful(int,int,int)",
        "boolean hold(int,int)", "boolean tire(int,int)", "boolean leave(int)", "boolean room(int,int)",
        "boolean walk(int,boolean)", "int hour()", "int day()", "int turn()", "int alms(int)", "int tell(int,int)",
        "boolean least(int,int,int)", "boolean binds(int,int)", "int offer(int)", "int compose(int,int)",
        "boolean buy(int,int,int)", "int swing(int,int,int,int)", "int surrender(int)", "int found(int,int)",
        "int book(int,int)", "int free(int,int)", "int count(int)", "boolean image(int)", "boolean again(int)"};

    public static void main(String[] args) throws IOException {
        face();
        for (Class<?> inside : DebtorsHouse.class.getDeclaredClasses()) {
            inside(inside);
        }
        due("rule 11: classes", DebtorsHouse.class.getDeclaredClasses().length + 1 <= 12);
        String code = bare(Files.readString(Path.of("src/main/java/DebtorsHouse.java")));
        words(code);
        methods(code);
        check.finish();
    }

    private static void due(String rule, boolean kept) {
        check.due(rule, kept, true);
    }

    private static void face() {
        Class<?> house = DebtorsHouse.class;
        due("rule 1: public final", Modifier.isPublic(house.getModifiers()) && Modifier.isFinal(house.getModifiers()));
        TreeSet<String> open = new TreeSet<>();
        TreeSet<String> hidden = new TreeSet<>();
        for (Method m : house.getDeclaredMethods()) {
            if (Modifier.isPrivate(m.getModifiers())) {
                hidden.add(m.getName());
            } else {
                String parameters = Arrays.toString(m.getParameterTypes()).replaceAll("[\\[\\] ]", "");
                open.add(m.getReturnType() + " " + m.getName() + "(" + parameters + ")");
                due("rule 1: public, not static: " + m, m.getModifiers() == Modifier.PUBLIC);
                due("rule 1: no private method is named " + m.getName(), !hidden.contains(m.getName()));
            }
        }
        due("rule 1: the face " + open, open.equals(new TreeSet<>(Arrays.asList(FACE))));
        for (String call : FACE) {
            String name = call.replaceAll(".* |\\(.*", "");
            due("rule 1: no private method is named " + name, !hidden.contains(name));
        }
        for (Field f : house.getDeclaredFields()) {
            due("rule 1: NONE alone is open, not " + f, f.getName().equals("NONE") || Modifier.isPrivate(f.getModifiers()));
        }
        due("rule 1: one constructor", house.getDeclaredConstructors().length == 1);
        fields(house);
    }

    private static void inside(Class<?> inside) {
        due("rule 2: static: " + inside, Modifier.isStatic(inside.getModifiers()));
        due("rule 1: not public: " + inside, !Modifier.isPublic(inside.getModifiers()));
        for (Method m : inside.getDeclaredMethods()) {
            due("rule 1: no method inside is named as one of the face: " + m,
                Arrays.stream(FACE).noneMatch(call -> call.contains(" " + m.getName() + "(")));
        }
        fields(inside);
    }

    private static void fields(Class<?> owner) {
        int own = 0;
        for (Field f : owner.getDeclaredFields()) {
            boolean fixed = Modifier.isStatic(f.getModifiers());
            due("rule 5: final: " + f, !fixed || Modifier.isFinal(f.getModifiers()));
            own += fixed ? 0 : 1;
        }
        due("rule 11: fields of " + owner + ": " + own, own <= 20);
    }

    /** The code without comments, and without what stands in texts and signs. */
    private static String bare(String source) {
        String code = Pattern.compile("/\\*.*?\\*/", Pattern.DOTALL).matcher(source).replaceAll("");
        return code.replaceAll("//[^\n]*", "").replaceAll("\"[^\"\n]*\"", "\"\"").replaceAll("'[^'\n]*'", "' '");
    }

    private static void words(String code) {
        String[] never = {"throw", "throws", "try", "catch", "synchronized", "assert", "import", "package", "native",
            "volatile", "transient", "Object", "Override", "protected", "hashCode", "toString", "System\\.out", "Exception",
            "Thread", "Random", "interface", "MAX_VALUE", "MIN_VALUE", "var", "default ->"};
        for (String word : never) {
            due("rules 4, 6, 13: no " + word, !Pattern.compile("\\b" + word + "\\b").matcher(code).find());
        }
        due("rules 2, 6: no lambda, no arrow", !code.contains("->"));
        due("rule 2: no method reference", !code.contains("::"));
        due("rule 4: none that ends in Exact", !Pattern.compile("Exact\\s*\\(").matcher(code).find());
        due("rule 5: no static block", !Pattern.compile("static\\s*\\{").matcher(code).find());
        Matcher library = Pattern.compile("\\b(System|Math|Integer|Long|Arrays|String)\\.(\\w+)").matcher(code);
        while (library.find()) {
            String call = library.group();
            due("rule 4: " + call, call.matches("System\\.arraycopy|Math\\.(min|max|abs)|Integer\\.bitCount"));
        }
    }

    private static void methods(String code) {
        String[] lines = code.split("\n", -1);
        Pattern head = Pattern.compile("^( {4}| {8})(?=\\S)(?!return|else|if|for|while|switch).*\\b(\\w+)\\((.*)\\) \\{$");
        int found = 0;
        for (int i = 0; i < lines.length; i++) {
            Matcher m = head.matcher(lines[i]);
            if (!m.find()) {
                continue;
            }
            found++;
            int last = i;
            while (!lines[last].equals(m.group(1) + "}")) {
                last++;
            }
            due("rule 11: length of " + m.group(2), last - i <= 60);
            due("rule 11: parameters of " + m.group(2), m.group(3).isEmpty() || m.group(3).split(",").length <= 7);
        }
        due("rule 11: methods were found", found > 100);
    }
}
