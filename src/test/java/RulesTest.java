import java.io.IOException;
import java.lang.reflect.Field;
import java.lang.reflect.Method;
import java.lang.reflect.Modifier;
import java.util.ArrayDeque;
import java.util.ArrayList;
import java.util.Deque;
import java.util.HashMap;
import java.util.List;
import java.util.Map;
import java.util.Set;
import java.util.TreeMap;

/** What of LANGUAGE.md can be seen from the compiled class: calls, objects, arrays, divisions and exceptions. */
final class RulesTest {
    private static final Set<String> LIBRARY = Set.of("java/lang/Object <init> ()V", "java/lang/String length ()I",
            "java/lang/String charAt (I)C", "java/lang/Integer bitCount (I)I", "java/lang/Math min (II)I",
            "java/lang/Math max (II)I",
            "java/lang/Math abs (I)I", "java/util/Arrays fill ([II)V",
            "java/lang/System arraycopy (Ljava/lang/Object;ILjava/lang/Object;II)V");
    private static final String EXCEPTION = "java/lang/(IllegalState|IllegalArgument|IndexOutOfBounds)Exception";

    /** Every method of the class and of the classes inside, by "class name descriptor", with its steps. */
    private static final Map<String, List<String>> METHODS = new TreeMap<>();

    public static void main(String[] args) throws IOException {
        List<Class<?>> classes = new ArrayList<>(List.of(CardLoom.class.getDeclaredClasses()));
        classes.add(CardLoom.class);
        for (Class<?> type : classes) {
            Bytecode.methodsOf(type).forEach((name, steps) -> METHODS.put(type.getName() + " " + name, steps));
        }
        Check.same("the steps are read", METHODS.size() > 150
                && METHODS.toString().contains("call CardLoom$Parser parse (I)Z"), true);
        stepsOfMethods();
        depthOfCalls();
        classes.forEach(RulesTest::members);
        Check.end("RulesTest");
    }

    private static void stepsOfMethods() {
        StringBuilder arrays = new StringBuilder();
        StringBuilder divisions = new StringBuilder();
        METHODS.forEach((method, steps) -> {
            boolean constructor = method.contains(" <init> ");
            Check.same("rule 5: no static initialiser, " + method, method.contains("<clinit>"), false);
            for (String step : steps) {
                String[] words = step.split(" ", 2);
                boolean thrown = words.length > 1 && words[1].matches(EXCEPTION + ".*");
                if (words[0].equals("call") && !words[1].startsWith("CardLoom")) {
                    Check.same("rule 4: " + step + " in " + method, LIBRARY.contains(words[1]) || thrown, true);
                } else if (words[0].equals("new")) {
                    Check.same("rule 12: " + step + " in " + method, constructor || thrown, true);
                    Check.same("rule 6: " + step + " in " + method, constructor && thrown, false);
                }
                Check.same("not in " + method, step.matches("catch|cast|lock|dynamic.*"), false);
            }
            if (steps.contains("read array") || steps.contains("write array")) {
                arrays.append(method).append('\n');
            }
            if (steps.contains("divide") || steps.contains("rest")) {
                divisions.append(method).append('\n');
            }
        });
        Check.same("rule 7: the methods that test an index before they use it", arrays.toString(),
                "CardLoom at ([II)I\n"
                + "CardLoom put ([III)V\nCardLoom$History <init> ()V\nCardLoom$History stateAt (I)LCardLoom$State;\n");
        Check.same("rule 7: the methods that divide by a constant, or test the divisor before", divisions.toString(),
                "CardLoom swapFirst ()I\nCardLoom swapSecond ()I\nCardLoom$Deck cardForRow (I)I\nCardLoom$Deck leastPeriod ()I\n"
                + "CardLoom$History bringBack (LCardLoom$State;)Z\nCardLoom$History remember (LCardLoom$State;)V\n"
                + "CardLoom$Loom yarnToDeckEnd (I)I\nCardLoom$Output addNumber (I)V\n");
    }

    // ---- calls

    private static void depthOfCalls() {
        Map<String, Integer> depths = new HashMap<>();
        for (String method : METHODS.keySet()) {
            int depth = depth(method, depths, new ArrayDeque<>());
            Check.same("rule 11: calls go at most eight deep from " + method, depth <= 8, true);
        }
    }

    private static int depth(String method, Map<String, Integer> depths, Deque<String> open) {
        if (depths.containsKey(method)) {
            return depths.get(method);
        }
        Check.same("rule 8: no recursion of " + method, open.contains(method), false);
        if (open.contains(method)) {
            return 0;
        }
        open.push(method);
        int deepest = 0;
        for (String step : METHODS.getOrDefault(method, List.of())) {
            String called = step.startsWith("call ") ? step.substring(5) : "";
            if (METHODS.containsKey(called)) {
                deepest = Math.max(deepest, depth(called, depths, open));
            }
        }
        open.pop();
        depths.put(method, deepest + 1);
        return deepest + 1;
    }

    // ---- members

    private static void members(Class<?> type) {
        for (Field field : type.getDeclaredFields()) {
            boolean constant = Modifier.isStatic(field.getModifiers());
            Check.same("rule 5: " + field, !constant || Modifier.isFinal(field.getModifiers())
                    && field.getType() == int.class, true);
            Class<?> held = field.getType().isArray() ? field.getType().getComponentType() : field.getType();
            Check.same("rule 3: " + field, held == int.class || held == boolean.class
                    || held.getName().startsWith("CardLoom"), true);
        }
        for (Method method : type.getDeclaredMethods()) {
            Check.same("rule 11: the parameters of " + method, method.getParameterCount() <= 7, true);
            Check.same("rule 6: no synchronized " + method, Modifier.isSynchronized(method.getModifiers()), false);
        }
    }
}
