import java.lang.reflect.InvocationTargetException;
import java.lang.reflect.Method;
import java.lang.reflect.Modifier;
import java.util.ArrayList;
import java.util.Arrays;
import java.util.Comparator;
import java.util.List;
import java.util.Random;

/** Long runs of calls, drawn by fixed seeds, on the class and on the model: all answers are alike. */
public final class ModelTest {
    private static final int RUNS = 600;
    private static final int CALLS = 512;
    private static final String[] PERSONS = {"ann", "bob", "cid", "dan", "eve", "fay", "gil", "hal"};
    private static final String[] DISHES = {"ham", "pea", "pie", "egg", "jam", "nut", "oat"};

    private final Random random;
    private final SecondHelpings x = new SecondHelpings();
    private final Model model = new Model();
    private final List<Method[]> methods;
    private final List<String> latest = new ArrayList<>();
    private int calls = 0;
    private int dearCalls = 0;

    private ModelTest(long seed, List<Method[]> methods) {
        random = new Random(seed);
        this.methods = methods;
    }

    public static void main(String[] args) throws ReflectiveOperationException {
        List<Method[]> methods = new ArrayList<>();
        for (Method method : SecondHelpings.class.getDeclaredMethods()) {
            if (Modifier.isPublic(method.getModifiers())) {
                methods.add(new Method[] {method, Model.class.getDeclaredMethod(method.getName(), method.getParameterTypes())});
            }
        }
        methods.sort(Comparator.comparing(pair -> pair[0].getName()));
        Check.due("methods", methods.size(), 41);
        for (int seed = 0; seed < RUNS; seed++) {
            new ModelTest(seed, methods).run();
        }
        Check.finish("ModelTest");
    }

    private void run() throws ReflectiveOperationException {
        while (calls < CALLS - 60) {
            switch (random.nextInt(24)) {
                case 0, 1 -> feedText(random.nextInt(8) == 0 ? spoilt(tableText()) : tableText(), "table");
                case 2, 3 -> feedText(random.nextInt(6) == 0 ? spoilt(bookText()) : bookText(), "book");
                case 4, 5 -> feedText(random.nextInt(6) == 0 ? spoilt(sentenceText()) : sentenceText(), "sentence");
                case 6 -> feedBytes("eaters");
                case 7 -> feedBytes("left");
                default -> anyCall();
            }
        }
        compareAll();
    }

    private void anyCall() throws ReflectiveOperationException {
        Method[] pair = methods.get(random.nextInt(methods.size()));
        String name = pair[0].getName();
        boolean dear = name.equals("order") || name.equals("seats");
        if (List.of("feed", "end", "table", "book", "sentence", "eaters", "left").contains(name) && random.nextInt(12) != 0) {
            return;
        }
        if (List.of("die", "meals", "drawn").contains(name) && random.nextInt(4) != 0) {
            return;
        }
        if (dear && (model.count(0) == 7 && ++dearCalls > 1)) {
            return;
        }
        Object[] arguments = new Object[pair[0].getParameterCount()];
        for (int i = 0; i < arguments.length; i++) {
            arguments[i] = argument();
        }
        if (name.equals("meals") || name.equals("drawn")) {
            arguments[0] = random.nextInt(10) == 0 ? argument() : (Object) (1 + random.nextInt(4));
        }
        call(name, arguments);
        if (name.equals("order") || name.equals("seats")) {
            for (int k = -1; k < 8; k++) {
                call(name.equals("order") ? "orderAt" : "seatAt", k);
            }
        }
    }

    private int argument() {
        return switch (random.nextInt(40)) {
            case 0 -> Integer.MIN_VALUE;
            case 1 -> Integer.MAX_VALUE;
            case 2 -> random.nextInt();
            case 3, 4 -> -1;
            case 5, 6, 7 -> random.nextInt(130);
            default -> random.nextInt(random.nextBoolean() ? 4 : 8);
        };
    }

    private void call(String name, Object... arguments) throws ReflectiveOperationException {
        for (Method[] pair : methods) {
            if (pair[0].getName().equals(name)) {
                String call = name + Arrays.toString(arguments);
                latest.add(call);
                calls++;
                String got = answer(pair[0], x, arguments);
                String due = answer(pair[1], model, arguments);
                if (!got.equals(due)) {
                    System.out.println(latest);
                }
                Check.due(call, got, due);
            }
        }
    }

    private static String answer(Method method, Object on, Object[] arguments) throws ReflectiveOperationException {
        try {
            return String.valueOf(method.invoke(on, arguments));
        } catch (InvocationTargetException e) {
            return e.getCause().getClass().getName();
        }
    }

    private void compareAll() throws ReflectiveOperationException {
        for (int p = 0; p < 7; p++) {
            for (int what = 2; what < 8; what++) {
                call("person", p, what);
            }
        }
        for (int what = 0; what < 8; what++) {
            call("now", what);
        }
    }

    private void feedText(String text, String reader) throws ReflectiveOperationException {
        int[] bytes = text.chars().limit(940).toArray();
        feedAll(bytes);
        if (reader.equals("book")) {
            call("book", random.nextInt(20) == 0 ? argument() : (Object) random.nextInt(2));
            for (int what = 0; what < 4; what++) {
                call("told", what);
            }
        } else {
            call(reader);
        }
        call("fault");
        if (reader.equals("sentence")) {
            for (int k = -1; k < 3; k++) {
                call("said", k);
            }
        }
    }

    private void feedAll(int... bytes) throws ReflectiveOperationException {
        call("end", 0);
        int[] padded = Arrays.copyOf(bytes, (bytes.length + 19) / 20 * 20);
        for (int i = 0; i < padded.length; i += 20) {
            Object[] five = new Object[5];
            for (int k = 0; k < 5; k++) {
                int at = i + 4 * k;
                five[k] = padded[at] << 24 | padded[at + 1] << 16 | padded[at + 2] << 8 | padded[at + 3];
            }
            call("feed", five);
        }
        call("end", bytes.length);
    }

    private void feedBytes(String reader) throws ReflectiveOperationException {
        if (reader.equals("eaters")) {
            int d = random.nextInt(5);
            int sum = 0;
            for (int p = 0; p < 7; p++) {
                sum += random.nextBoolean() ? Math.max(model.plate(p, d), 0) : 0;
            }
            feedAll(d, sum & 255);
            call("eaters");
            call("surely");
            call("ask");
        } else {
            int[] bytes = new int[random.nextInt(9)];
            for (int i = 0; i < bytes.length; i++) {
                bytes[i] = random.nextInt(Math.max(model.count(0), 1) + (random.nextInt(20) == 0 ? 1 : 0));
            }
            feedAll(bytes);
            call("left", random.nextInt(7));
        }
    }

    private String any(String[] names, int most) {
        return names[random.nextInt(most)];
    }

    private String tableText() {
        StringBuilder text = new StringBuilder();
        int persons = random.nextInt(40) == 0 ? 8 : random.nextInt(12) == 0 ? 7 : random.nextInt(7);
        int dishes = random.nextInt(40) == 0 ? 7 : random.nextInt(7);
        int few = random.nextBoolean() ? 6 : 21;
        for (int p = 0; p < persons; p++) {
            text.append("person ").append(PERSONS[p]).append(' ').append(random.nextInt(few));
            if (p > 0 && random.nextInt(3) != 0) {
                text.append(" of ").append(PERSONS[random.nextInt(p)]);
            }
            text.append(random.nextInt(9) == 0 ? " ;\n" : ";");
        }
        for (int d = 0; d < dishes; d++) {
            text.append("dish ").append(DISHES[d]).append(' ').append(random.nextInt(100));
            text.append(random.nextInt(3) == 0 ? " spoils " + (1 + random.nextInt(9)) : "").append(';');
        }
        for (int p = 0; p < persons; p++) {
            for (int d = 0; d < dishes; d++) {
                if (random.nextInt(3) == 0) {
                    text.append("plate ").append(PERSONS[p]).append(' ').append(DISHES[d]).append(' ');
                    text.append(1 + random.nextInt(random.nextBoolean() ? 40 : 8)).append(';');
                }
            }
        }
        text.append(new String[] {"", "law next;", "law child;", "law least;"}[random.nextInt(4)]);
        text.append(random.nextBoolean() ? "dogs " + random.nextInt(10) + ";" : "");
        return text.toString();
    }

    private String bookText() {
        StringBuilder text = new StringBuilder();
        int lines = random.nextInt(15) == 0 ? 41 : random.nextInt(8);
        int persons = Math.max(1, model.count(0));
        int dishes = Math.max(1, model.count(1));
        for (int i = 0; i < lines; i++) {
            String who = any(PERSONS, random.nextInt(40) == 0 ? 8 : persons);
            String dish = any(DISHES, random.nextInt(40) == 0 ? 7 : dishes);
            text.append(switch (random.nextInt(lines > 9 ? 1 : 9)) {
                case 0 -> "meal " + (1 + random.nextInt(3));
                case 1, 2 -> who + " eats " + dish + " " + (1 + random.nextInt(random.nextInt(5) == 0 ? 22 : 3));
                case 3, 4 -> who + " served " + dish + " " + (1 + random.nextInt(random.nextInt(5) == 0 ? 42 : 9));
                case 5 -> who + " rises";
                case 6 -> who + " refuses";
                case 7 -> who + " accepts";
                default -> random.nextBoolean() ? who + " dies" : "meal " + random.nextInt(62);
            }).append(';');
        }
        return text.toString();
    }

    private String sentenceText() {
        String text = cond(random.nextInt(4) == 0 ? 9 : 3);
        return text.length() > 210 ? text.substring(0, 210) : text;
    }

    private String cond(int depth) {
        StringBuilder text = new StringBuilder(one(depth));
        while (random.nextInt(3) == 0) {
            text.append(random.nextBoolean() ? " or " : " and ").append(one(depth));
        }
        return text.toString();
    }

    private String one(int depth) {
        int persons = Math.max(1, model.count(0));
        int dishes = Math.max(1, model.count(1));
        String sign = any(new String[] {"<", "=", ">"}, 3);
        return switch (depth <= 0 || random.nextInt(3) == 0 ? random.nextInt(9) : 9 + random.nextInt(2)) {
            case 0 -> "dead";
            case 1 -> "refused";
            case 2 -> "clean";
            case 3 -> "of " + any(PERSONS, random.nextInt(20) == 0 ? 8 : persons);
            case 4 -> "has " + any(DISHES, random.nextInt(20) == 0 ? 7 : dishes);
            case 5 -> "wants" + sign + random.nextInt(20);
            case 6 -> "eaten " + sign + random.nextInt(20);
            case 7 -> "hunger" + sign + random.nextInt(60);
            case 8 -> "number" + sign + " " + random.nextInt(7);
            case 9 -> "not " + one(depth - 1);
            default -> "(" + cond(depth - 1) + ")";
        };
    }

    /** A text with something that is amiss, or not. */
    private String spoilt(String text) {
        StringBuilder bad = new StringBuilder(text);
        int times = 1 + random.nextInt(3);
        for (int i = 0; i < times; i++) {
            int at = random.nextInt(bad.length() + 1);
            switch (random.nextInt(6)) {
                case 0 -> bad.insert(at, (char) random.nextInt(256));
                case 1 -> bad.insert(at, "; < = > ( ) . 7 99 of law dogs person dish not and or ".charAt(random.nextInt(50)));
                case 2 -> bad.insert(at, any(new String[] {" dead ", " law next;", " dogs 1;", " 5 ", "person ", " ann "}, 6));
                case 3 -> bad.delete(at, Math.min(bad.length(), at + 1 + random.nextInt(6)));
                case 4 -> bad.insert(at, " ".repeat(random.nextInt(800)));
                default -> bad.setLength(at);
            }
        }
        return bad.toString();
    }
}
