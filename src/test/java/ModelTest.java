import java.lang.reflect.Method;
import java.util.ArrayList;
import java.util.Arrays;
import java.util.Comparator;
import java.util.List;
import java.util.Map;
import java.util.Random;

/** All promises at once: runs of calls, always the same ones, each answer compared with Model's. */
public final class ModelTest {
    private static final int RUNS = 1500;
    private static final int CALLS = 512;
    private static final String SIGNS = "sidck";
    private static final List<String> BY_ROUND = List.of("ofRound", "loops", "sign", "loop", "spun", "bare", "reading", "kinds",
        "signings", "tell", "tug", "as");
    /** Where each call that has one has the number of its SHEET. */
    private static final Map<String, Integer> BY_SHEET = Map.of("piece", 0, "puton", 2, "day", 0, "put", 0, "cell", 0, "copy", 0);

    private final Random random;
    private final List<String> told = new ArrayList<>();
    private final LoopRounds x = new LoopRounds();
    private final Model model = new Model();
    /** The LANES of the rows that were laid last, so that calls often take them as they are. */
    private final int[] lanes = new int[4];
    private boolean asDue = true;

    private ModelTest(long seed) {
        random = new Random(seed);
    }

    public static void main(String[] args) throws Exception {
        Method[] methods = LoopRounds.class.getDeclaredMethods();
        List<Method> calls = new ArrayList<>();
        for (Method method : methods) {
            if (java.lang.reflect.Modifier.isPublic(method.getModifiers())) {
                calls.add(method);
            }
        }
        calls.sort(Comparator.comparing(Method::getName));
        for (int run = 0; run < RUNS; run++) {
            new ModelTest(run).run(run, calls);
        }
        Due.end();
    }

    private void run(int number, List<Method> calls) throws Exception {
        while (told.size() < CALLS && asDue) {
            int kind = random.nextInt(20);
            if (kind == 0 && random.nextInt(3) == 0 || model.many(1) == 0 && random.nextInt(4) == 0) {
                tellText();
            } else if (kind == 1) {
                tellRow();
            } else {
                Method method = calls.get(random.nextInt(calls.size()));
                if (!method.getName().equals("ravel") || random.nextInt(4) == 0) {
                    call(method.getName(), numbers(method));
                }
            }
        }
        if (!asDue) {
            System.out.println("run " + number + ": " + String.join("; ", told));
        }
        Due.holds("run " + number, asDue);
    }

    private void call(String name, int... numbers) throws Exception {
        if (told.size() >= CALLS || !asDue) {
            return;
        }
        Class<?>[] types = new Class<?>[numbers.length];
        Object[] values = new Object[numbers.length];
        for (int k = 0; k < numbers.length; k++) {
            types[k] = int.class;
            values[k] = numbers[k];
        }
        Object got = LoopRounds.class.getMethod(name, types).invoke(x, values);
        Object due = Model.class.getMethod(name, types).invoke(model, values);
        asDue = got.equals(due);
        if (name.equals("sheet") && due.equals(1)) {
            lanes[numbers[0]] = numbers[1];
        }
        told.add(name + Arrays.toString(numbers) + " " + got + (asDue ? "" : ", due is " + due));
    }

    /** A text that is nearly always right, and often comes out. */
    private void tellText() throws Exception {
        StringBuilder text = new StringBuilder("r").append(random.nextInt(12) == 0 ? random.nextInt(10) : 3 + random.nextInt(6));
        int rounds = 1 + random.nextInt(random.nextInt(6) == 0 ? 7 : 4);
        for (int r = 0; r < rounds; r++) {
            text.append(';').append("pbt".charAt(random.nextInt(3))).append(1 + random.nextInt(9));
            int signs = 1 + random.nextInt(random.nextInt(8) == 0 ? 6 : 2);
            for (int i = 0; i < signs; i++) {
                text.append(SIGNS.charAt(random.nextInt(random.nextInt(3) == 0 ? 5 : 2)));
            }
        }
        if (random.nextInt(6) == 0) {
            text.setCharAt(random.nextInt(text.length()), "rpbt;0123456789sidckx".charAt(random.nextInt(21)));
        }
        if (random.nextInt(8) == 0) {
            text.setLength(random.nextInt(text.length()));
        }
        int sheet = random.nextInt(4);
        int lane = random.nextInt(3);
        int length = Math.min(60, text.length());
        call("sheet", sheet, lane, length);
        for (int i = 0; i < length; i++) {
            call("put", sheet, i, text.charAt(i));
        }
        call("piece", sheet, lane, 0, length);
    }

    /** A row of SIGNS or acts, and calls that take it. */
    private void tellRow() throws Exception {
        int sheet = random.nextInt(4);
        int lane = random.nextInt(3);
        int length = random.nextInt(8);
        boolean isDay = random.nextBoolean();
        call("sheet", sheet, lane, length);
        for (int i = 0; i < length; i++) {
            call("put", sheet, i, isDay && random.nextInt(3) == 0 ? 11 + random.nextInt(6) : random.nextInt(isDay ? 6 : 5));
        }
        int from = random.nextInt(length + 1);
        if (isDay) {
            for (int what : new int[] {0, 1, 2, 3, 4, 10 + random.nextInt(7)}) {
                call("day", sheet, lane, from, length - from, what);
            }
        } else {
            call("puton", random.nextInt(3), 1 + random.nextInt(9), sheet, lane, from, random.nextInt(Math.max(1, length - from) + 1));
        }
    }

    private int[] numbers(Method method) {
        int[] numbers = new int[method.getParameterCount()];
        for (int k = 0; k < numbers.length; k++) {
            numbers[k] = number(method.getName(), k);
        }
        Integer sheet = BY_SHEET.get(method.getName());
        if (sheet != null && random.nextInt(8) != 0) {
            numbers[sheet] = random.nextInt(4);
            int lane = method.getName().equals("cell") ? 2 : method.getName().matches("piece|day|puton") ? sheet + 1 : -1;
            if (lane >= 0) {
                numbers[lane] = lanes[numbers[sheet]];
            }
        }
        return numbers;
    }

    private int number(String name, int k) {
        int kind = random.nextInt(40);
        if (kind == 0) {
            return new int[] {Integer.MIN_VALUE, Integer.MAX_VALUE, -2, 61, 60, 1080, 1081, 17}[random.nextInt(8)];
        }
        if (kind == 1) {
            return -1;
        }
        if (BY_ROUND.contains(name) && k == 0 && random.nextInt(8) != 0) {
            return 1 + random.nextInt(Math.max(1, model.many(0)));
        }
        if (name.equals("reading") && k == 1) {
            return random.nextInt(4) == 0 ? random.nextInt(1081) : Math.max(0, model.ofRound(1 + random.nextInt(3), 6));
        }
        if (name.equals("ravel")) {
            return random.nextInt(3);
        }
        if (name.equals("fewest") && k == 0 || name.equals("ways") && k == 1) {
            return random.nextInt(62);
        }
        if (name.equals("loop") && k == 1) {
            return random.nextInt(random.nextInt(2) == 0 ? 62 : 12);
        }
        if (name.equals("back")) {
            return random.nextInt(random.nextInt(4) == 0 ? 4 : 1);
        }
        if (name.equals("put") && k == 2) {
            return random.nextInt(3) == 0 ? random.nextInt() : random.nextInt(6);
        }
        if (name.equals("ofRound") && k == 1) {
            return random.nextInt(10);
        }
        return random.nextInt(random.nextInt(6) == 0 ? 18 : 5);
    }
}
