import java.lang.reflect.InvocationTargetException;
import java.lang.reflect.Method;
import java.util.ArrayList;
import java.util.Arrays;
import java.util.Comparator;
import java.util.List;
import java.util.Random;

/**
 * Runs of 512 calls, on the class and on the model side by side. The runs are the same each time.
 * They differ in how often arguments are wild and in which calls are frequent.
 */
public final class ModelTest {
    private static final int RUNS = 240, CALLS = 512;
    private static final int[] WILD = {
        Integer.MIN_VALUE, Integer.MIN_VALUE + 1, -1000000, -5, -4, -3, -2, -1, 16, 17, 99, 100, 120, 127, 128, 255,
        65536, 999999, 1000000, 1 << 30, Integer.MAX_VALUE - 1, Integer.MAX_VALUE};
    private static final Due due = new Due();
    private static final List<Method> METHODS = methods();

    private final Random random;
    private final GestureBook book = new GestureBook();
    private final Model model = new Model();
    private final int run;
    private int calls = 0;

    private ModelTest(int run) {
        this.run = run;
        this.random = new Random(run);
    }

    public static void main(String[] args) throws ReflectiveOperationException {
        for (int run = 0; run < RUNS; run++) {
            new ModelTest(run).go();
        }
        due.end();
    }

    private static List<Method> methods() {
        List<Method> found = new ArrayList<>();
        for (Method method : GestureBook.class.getDeclaredMethods()) {
            if (java.lang.reflect.Modifier.isPublic(method.getModifiers())) {
                found.add(method);
            }
        }
        // reflection promises no order, and the runs have to be the same each time
        found.sort(Comparator.comparing(Method::getName));
        return found;
    }

    private static Method method(String name) {
        return METHODS.stream().filter(m -> m.getName().equals(name)).findFirst().orElseThrow();
    }

    private void go() throws ReflectiveOperationException {
        int signs = random.nextInt(17);
        for (int k = 0; k < signs; k++) {
            call("sign", small(), small(), small(), small(), random.nextInt(4));
        }
        while (calls < CALLS) {
            step();
        }
    }

    private int small() {
        return random.nextInt(run % 3 == 0 ? 2 : 8);
    }

    private void step() throws ReflectiveOperationException {
        int dice = random.nextInt(100);
        if (dice < 3 + run % 4) {
            readText();
        } else if (dice < 30) {
            call("word", random.nextInt(16), random.nextInt(7) - 1, random.nextInt(7) - 1);
        } else if (dice < 33) {
            call("digest");
        } else if (dice < 36) {
            call("sign", small(), small(), small(), small(), random.nextInt(4));
        } else {
            Method method = METHODS.get(random.nextInt(METHODS.size()));
            int[] a = new int[method.getParameterCount()];
            for (int n = 0; n < a.length; n++) {
                a[n] = argument();
            }
            // these would empty the object too often for the rest to be of interest
            boolean rare = method.getName().equals("clears") || method.getName().equals("drops");
            if (!rare || random.nextInt(6) == 0) {
                call(method.getName(), a);
            }
        }
    }

    private int argument() {
        int dice = random.nextInt(40);
        if (dice < run % 5) {
            return random.nextBoolean() ? WILD[random.nextInt(WILD.length)] : random.nextInt();
        }
        if (dice < 30) {
            return random.nextInt(6);
        }
        return random.nextInt(19) - 2;
    }

    private void readText() throws ReflectiveOperationException {
        call("clear");
        String text = text();
        for (int n = 0; n < text.length() && calls < CALLS; n++) {
            call("type", text.charAt(n));
        }
        call("reads");
        call("digest");
    }

    private String text() {
        StringBuilder text = new StringBuilder();
        int orders = random.nextInt(7);
        for (int n = 0; n < orders; n++) {
            text.append(blanks(0)).append(order()).append(blanks(0)).append(';');
        }
        text.append(blanks(0));
        if (random.nextInt(3) == 0 && text.length() > 0) {
            spoil(text);
        }
        return text.toString();
    }

    private String blanks(int least) {
        return " ".repeat(least + Math.max(0, random.nextInt(5) - 3));
    }

    private String order() {
        char letter = "sswwwwgldc".charAt(random.nextInt(10));
        if (letter == 'l' && random.nextInt(4) > 0) {
            List<Integer> positions = new ArrayList<>(List.of(0, 1, 2, 3, 4, 5));
            java.util.Collections.shuffle(positions, random);
            return letter + numbers(positions);
        }
        int count = letter == 's' ? 5 : letter == 'w' ? 1 + random.nextInt(3) : letter == 'g' ? 2
            : letter == 'l' ? 6 : letter == 'd' ? 1 : 0;
        List<Integer> numbers = new ArrayList<>();
        for (int n = 0; n < count; n++) {
            numbers.add(random.nextInt(30) == 0 ? random.nextInt(100) : random.nextInt(4));
        }
        return letter + numbers(numbers);
    }

    private String numbers(List<Integer> numbers) {
        StringBuilder said = new StringBuilder(blanks(0));
        for (int n = 0; n < numbers.size(); n++) {
            said.append(n == 0 ? "" : blanks(1)).append(random.nextInt(9) == 0 && numbers.get(n) < 10 ? "0" : "");
            said.append(numbers.get(n));
        }
        return said.toString();
    }

    private void spoil(StringBuilder text) {
        int place = random.nextInt(text.length());
        char with = "swgldc;; 0123456789x".charAt(random.nextInt(20));
        int how = random.nextInt(4);
        if (how == 0) {
            text.setCharAt(place, with);
        } else if (how == 1) {
            text.insert(place, with);
        } else if (how == 2) {
            text.deleteCharAt(place);
        } else {
            text.setLength(place);
        }
    }

    private void call(String name, int... a) throws ReflectiveOperationException {
        if (calls >= CALLS) {
            return;
        }
        calls++;
        String said = "run " + run + ", call " + calls + ": " + name + Arrays.toString(a);
        long want = model.call(name, a);
        try {
            Object got = method(name).invoke(book, Arrays.stream(a).boxed().toArray());
            due.is(said, ((Number) got).longValue(), want);
        } catch (InvocationTargetException thrown) {
            due.holds(said + " threw " + thrown.getCause(), false);
        }
    }
}
