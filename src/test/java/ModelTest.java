import java.lang.reflect.InvocationTargetException;
import java.lang.reflect.Method;
import java.util.ArrayList;
import java.util.Arrays;
import java.util.Comparator;
import java.util.List;
import java.util.Random;

/** All promises: long runs of calls, the same ones each time, answered by the class and by the model. */
final class ModelTest {
    private static final String[] CHANGES = {"weave", "unweave", "swapCards", "punch", "setCardColour", "bringYarn",
        "oil", "mend", "undo", "saveState", "restoreState"};

    private final Random random;
    private final CardLoom loom = new CardLoom();
    private final Model model = new Model();
    private final List<String> calls = new ArrayList<>();
    private boolean same = true;

    private ModelTest(int seed) {
        random = new Random(seed);
    }

    public static void main(String[] args) throws Exception {
        int runs = args.length > 0 ? Integer.parseInt(args[0]) : 1500;
        int agreed = 0;
        for (int seed = 0; seed < runs && agreed == seed; seed++) {
            ModelTest test = new ModelTest(seed);
            test.run();
            agreed += test.same ? 1 : 0;
        }
        Check.same("runs that the model agrees with", agreed, runs);
        Check.end("ModelTest");
    }

    private static Method[] face() {
        Method[] face = CardLoom.class.getDeclaredMethods();
        face = Arrays.stream(face).filter(m -> java.lang.reflect.Modifier.isPublic(m.getModifiers())).toArray(Method[]::new);
        Arrays.sort(face, Comparator.comparing(Method::getName));
        return face;
    }

    private void run() throws Exception {
        Method[] face = face();
        int setups = 1 + random.nextInt(4);
        for (int i = 0; i < setups && same; i++) {
            String setup = random.nextInt(8) == 0 ? damaged(setup(true)) : setup(random.nextInt(3) == 0);
            append(setup);
            int length = Math.min(setup.length(), loom.bufferLength());
            call("parseSetup", random.nextInt(40) == 0 ? random.nextInt(600) - 20 : length);
            call("parseErrorCode");
            call("parseErrorPosition");
            int rest = random.nextInt(80);
            for (int n = 0; n < rest && same && calls.size() < 480; n++) {
                Method method = face[random.nextInt(face.length)];
                String name = random.nextInt(3) == 0 ? CHANGES[random.nextInt(CHANGES.length)] : method.getName();
                if (!name.equals("append") && !name.equals("parseSetup")) {
                    call(name, arguments(name));
                }
                if (name.startsWith("write")) {
                    call("outputByte", random.nextInt(30));
                }
            }
        }
    }

    private void append(String text) throws Exception {
        for (int i = 0; i < text.length() && same; i += 20) {
            int[] five = new int[5];
            for (int k = 0; k < 20; k++) {
                five[k / 4] = five[k / 4] << 8 | (i + k < text.length() ? text.charAt(i + k) : ' ');
            }
            call("append", five);
        }
    }

    private int[] arguments(String name) {
        int[] arguments = new int[method(CardLoom.class, name).getParameterCount()];
        for (int i = 0; i < arguments.length; i++) {
            boolean large = random.nextInt(12) == 0;
            arguments[i] = large ? random.nextInt(1100) - 50 : random.nextInt(random.nextInt(3) == 0 ? 26 : 6) - 1;
        }
        if (name.equals("weave") && random.nextInt(4) > 0) {
            arguments[0] = 1 + random.nextInt(20);
        }
        return arguments;
    }

    private static Method method(Class<?> owner, String name) {
        for (Method method : owner.getDeclaredMethods()) {
            if (method.getName().equals(name)) {
                return method;
            }
        }
        throw new IllegalStateException(name);
    }

    private void call(String name, int... arguments) throws Exception {
        Object got = answer(loom, name, arguments);
        Object due = answer(model, name, arguments);
        calls.add(name + Arrays.toString(arguments) + " = " + got);
        if (!got.equals(due)) {
            same = false;
            System.out.println(String.join("\n", calls) + "\n  where the model answers " + due);
        }
    }

    private static Object answer(Object object, String name, int[] arguments) throws Exception {
        Method method = method(object.getClass(), name);
        Object[] boxed = Arrays.stream(arguments).boxed().toArray();
        try {
            return method.invoke(object, boxed);
        } catch (InvocationTargetException e) {
            return e.getCause().getClass();
        }
    }

    // ---- setups

    private int harnesses;
    private int cards;

    /** A setup that is valid most of the time; a wild one has more numbers out of range. */
    private String setup(boolean wild) {
        harnesses = 2 + random.nextInt(7);
        cards = 0;
        StringBuilder setup = new StringBuilder("loom ").append(harnesses).append(' ');
        setup.append(random.nextBoolean() ? 1 + random.nextInt(8) : 1 + random.nextInt(200));
        for (int i = random.nextInt(3); i >= 0; i--) {
            setup.append(";warp ").append(colour()).append(numbers(1 + random.nextInt(7), harnesses, wild));
        }
        for (int i = random.nextInt(wild ? 13 : 5); i >= 0; i--) {
            setup.append(card(wild));
        }
        for (int i = 0; i < 6; i++) {
            if (random.nextInt(3) > 0) {
                setup.append(";yarn ").append((char) ('a' + i)).append(' ').append(random.nextInt(999) + 1);
            }
        }
        if (random.nextInt(10) > 0) {
            setup.append(";deck").append(parts(0, wild));
        }
        for (int i = random.nextInt(8); i > 0; i--) {
            setup.append(item(wild));
        }
        return setup.toString();
    }

    private char colour() {
        return (char) ('a' + random.nextInt(random.nextInt(100) == 0 ? 7 : 6));
    }

    private String card(boolean wild) {
        StringBuilder card = new StringBuilder(";card ").append(colour());
        for (int h = 0; h < harnesses; h++) {
            card.append(random.nextInt(2) == 0 ? " " + h : "");
        }
        card.append(wild && random.nextInt(20) == 0 ? " " + number(harnesses, true) : "");
        cards++;
        return card.toString();
    }

    private String number(int count, boolean wild) {
        int number = random.nextInt(Math.max(1, count) + (wild && random.nextInt(30) == 0 ? 2 : 0));
        return random.nextInt(30) == 0 ? "0" + number : "" + number;
    }

    private String numbers(int length, int count, boolean wild) {
        StringBuilder numbers = new StringBuilder();
        for (int i = 0; i < length; i++) {
            numbers.append(' ').append(number(count, wild));
        }
        return numbers.toString();
    }

    private String parts(int depth, boolean wild) {
        StringBuilder parts = new StringBuilder();
        for (int i = random.nextInt(4); i >= 0; i--) {
            boolean card = depth >= 3 && random.nextInt(40) > 0 || random.nextInt(3) > 0;
            parts.append(card ? " " + number(cards, wild) : brackets(depth, wild));
        }
        return parts.toString();
    }

    private String brackets(int depth, boolean wild) {
        String inside = "(" + parts(depth + 1, wild) + ")";
        switch (random.nextInt(3)) {
            case 0:
                return " repeat " + (1 + random.nextInt(wild ? 21 : 5)) + inside;
            case 1:
                return "mirror" + inside;
            default:
                return " back" + inside;
        }
    }

    private String item(boolean wild) {
        switch (random.nextInt(wild ? 14 : 12)) {
            case 0:
                return ";unweave " + (1 + random.nextInt(2));
            case 1:
                return cards > 1 ? ";swap" + numbers(2, cards, wild) : "";
            case 2:
                return ";punch " + number(cards, wild) + " " + number(harnesses, wild);
            case 3:
                return ";dye " + number(cards, wild) + " " + colour();
            case 4:
                return ";oil " + number(harnesses, wild);
            case 5:
                return ";invert " + number(cards, wild);
            case 6:
                return ";strain " + random.nextInt(wild ? 62 : 5);
            case 7:
                return ";motor " + random.nextInt(wild ? 26 : 20);
            case 8:
                return wild ? ";mend " + random.nextInt(4) : "";
            case 9:
                return card(wild);
            case 10:
                return ";deck" + parts(1, wild);
            case 11:
                return ";warp " + colour() + numbers(1, harnesses, wild);
            default:
                return ";weave " + (1 + random.nextInt(6));
        }
    }

    private String damaged(String setup) {
        StringBuilder text = new StringBuilder(setup);
        String signs = " ;()0123459abcdefoz.A\u0000\u00ff";
        for (int i = random.nextInt(3); i >= 0; i--) {
            int place = random.nextInt(Math.max(1, text.length()));
            switch (random.nextInt(4)) {
                case 0:
                    text.delete(place, place + 1);
                    break;
                case 1:
                    text.setLength(Math.max(1, place));
                    break;
                default:
                    char sign = signs.charAt(random.nextInt(signs.length()));
                    text.replace(place, place + random.nextInt(2), "" + sign);
            }
        }
        return text.toString();
    }
}
