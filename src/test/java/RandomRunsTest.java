import java.lang.reflect.Method;
import java.util.ArrayList;
import java.util.Arrays;
import java.util.Comparator;
import java.util.List;
import java.util.Random;

/** Runs of drawn calls, each answered by the class and by the model alike. */
public final class RandomRunsTest {
    private static final int RUNS = Integer.getInteger("runs", 400);
    private static final int CALLS = 500;
    private static int wrong = 0;

    private final Random random;
    private final RumourRent town = new RumourRent();
    private final Model model = new Model();
    private final List<String> told = new ArrayList<>();
    private final int run;
    private int calls = 0;

    private RandomRunsTest(int run) {
        this.run = run;
        this.random = new Random(run);
    }

    public static void main(String[] args) throws Exception {
        int first = Integer.getInteger("first", 0);
        for (int run = first; run < first + RUNS && wrong < 5; run++) new RandomRunsTest(run).go();
        System.out.println(wrong == 0 ? "drawn runs: all answers alike" : wrong + " drawn runs went apart");
        if (wrong != 0) System.exit(1);
    }

    private void go() throws Exception {
        Method[] methods = Arrays.stream(RumourRent.class.getMethods())
            .filter(m -> m.getDeclaringClass() == RumourRent.class).toArray(Method[]::new);
        Arrays.sort(methods, Comparator.comparing(Method::getName));
        int roads = random.nextInt(13);
        while (roads-- > 0) if (!call("road", random.nextInt(8), random.nextInt(8))) return;
        int rumours = random.nextInt(5);
        while (rumours-- > 0) if (!call("rumour", random.nextInt(2), random.nextInt(1000))) return;
        // Runs differ in what they dwell on, else deep states would hardly come up.
        int[] weight = new int[methods.length];
        for (int i = 0; i < weight.length; i++) weight[i] = 1 + random.nextInt(random.nextInt(4) == 0 ? 12 : 3);
        boolean late = random.nextInt(10) == 0;
        while (calls < CALLS) {
            int kind = random.nextInt(20);
            boolean alike;
            if (kind == 0) {
                alike = feedText(new TextDraw(random).draw());
            } else if (kind <= 3) {
                alike = doSomething(late);
            } else {
                Method m = methods[pick(weight)];
                alike = call(m.getName(), drawArguments(m));
            }
            if (!alike) return;
        }
    }

    private boolean doSomething(boolean late) throws Exception {
        switch (random.nextInt(late ? 9 : 7)) {
            case 0: return call("tell", random.nextInt(8), random.nextInt(4));
            case 1: return call("tell", random.nextInt(8), random.nextInt(4));
            case 2: return call("gift", random.nextInt(4), 1 + random.nextInt(999));
            case 3: return call("day", 1 + random.nextInt(5));
            case 4: return call("years", random.nextInt(10000), 1 + random.nextInt(40));
            case 5: return call("heard", random.nextInt(8), random.nextInt(12));
            case 6: return call("pack", 1 + random.nextInt(4));
            default: return call("day", 55 + random.nextInt(6));
        }
    }

    private int pick(int[] weight) {
        int left = random.nextInt(Arrays.stream(weight).sum());
        int i = 0;
        while (left >= weight[i]) left -= weight[i++];
        return i;
    }

    private Object[] drawArguments(Method m) {
        if (m.getName().equals("feed")) return new Object[] {random.nextInt(), 0x20200a20, random.nextInt(), 59, 32};
        Object[] values = new Object[m.getParameterCount()];
        for (int i = 0; i < values.length; i++) {
            values[i] = m.getParameterTypes()[i] == boolean.class ? (Object) random.nextBoolean() : (Object) drawInt(m, i);
        }
        return values;
    }

    private int drawInt(Method m, int place) {
        if (random.nextInt(12) == 0) {
            int[] odd = {-1, -2, 8, 9, 12, 60, 61, 99, 100, 999, 1000, 9999, 10000, 40, 41, 0, 1, 2, 3, 4, 5, 7,
                Integer.MIN_VALUE, Integer.MAX_VALUE, 300, 301, -100};
            return odd[random.nextInt(odd.length)];
        }
        String name = m.getName();
        if (name.equals("years")) return place == 0 ? random.nextInt(10000) : random.nextInt(42);
        if (name.equals("rumour")) return place == 0 ? random.nextInt(2) : random.nextInt(1000);
        if (name.equals("gift")) return place == 0 ? random.nextInt(4) : random.nextInt(1000);
        if (name.equals("day")) return random.nextInt(20) == 0 ? random.nextInt(62) : random.nextInt(4);
        if (name.equals("foretold")) return place == 0 ? random.nextInt(20) : place == 1 ? random.nextInt(3) : random.nextInt(8);
        if (name.equals("heard") && place == 1) return random.nextInt(30);
        if (name.equals("book") && place == 0) return random.nextInt(32) - 1;
        if (name.equals("said")) return place == 2 ? random.nextInt(16) : random.nextInt(place == 0 ? 8 : 4);
        if (name.equals("began") || name.equals("ask")) return random.nextInt(10);
        if (name.equals("by") || name.equals("played")) return random.nextInt(5) - 1;
        if (name.startsWith("colour") && place == 0) return random.nextInt(6);
        if (name.equals("end")) return random.nextInt(40);
        if (name.equals("pack")) return random.nextInt(30) == 0 ? -1 : 1 + random.nextInt(4);
        return random.nextInt(9) - (random.nextInt(8) == 0 ? 1 : 0);
    }

    private boolean feedText(byte[] text) throws Exception {
        if (!call("end", 0)) return false;
        for (int i = 0; i < text.length; i += 20) {
            Object[] five = new Object[5];
            for (int j = 0; j < 5; j++) {
                int v = 0;
                for (int k = 0; k < 4; k++) {
                    int at = i + j * 4 + k;
                    v = v << 8 | (at < text.length ? text[at] & 255 : 0);
                }
                five[j] = v;
            }
            if (!call("feed", five)) return false;
        }
        int length = random.nextInt(12) == 0 ? random.nextInt(text.length + 1) : text.length;
        if (!call("end", length) || !call("text") || !call("fault", 0) || !call("fault", 1)) return false;
        int mine = random.nextInt(4);
        return call("by", mine) && call("played", random.nextInt(4));
    }

    private boolean call(String name, Object... values) throws Exception {
        calls++;
        Object got = invoke(town, name, values);
        Object due = invoke(model, name, values);
        told.add(name + Arrays.toString(values) + " = " + got);
        if (got.equals(due)) return true;
        wrong++;
        System.out.println("run " + run + ", call " + calls + ": " + told.get(told.size() - 1) + ", the model says " + due);
        return false;
    }

    private static Object invoke(Object on, String name, Object[] values) throws Exception {
        for (Method m : on.getClass().getMethods()) {
            if (m.getName().equals(name) && m.getParameterCount() == values.length) return m.invoke(on, values);
        }
        throw new IllegalStateException(name);
    }
}
