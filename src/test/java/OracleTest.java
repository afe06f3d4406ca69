import java.lang.reflect.Method;
import java.util.ArrayList;
import java.util.HashMap;
import java.util.List;
import java.util.Map;
import java.util.Random;

/** Runs of calls by lot, each answered by JackBoxes and by the Oracle; the answers must be alike. */
public final class OracleTest {
    private static final int RUNS = 400;
    private static final int CALLS = 150;

    /** By call, for each argument the least and the greatest that is well, and where less happens, up to where much does. */
    private static final Map<String, int[][]> ARGUMENTS = new HashMap<>();
    /** How often a call comes, against the others. */
    private static final Map<String, Integer> WEIGHTS = new HashMap<>();

    static {
        int[] step = {0, 59}, early = {0, 59, 20}, box = {0, 8}, either = {0, 1};
        int[] sheet = {0, 3}, form = {0, 2}, item = {0, 59, 20};
        put("type", 2, new int[] {0, 255});
        put("wipe", 1);
        put("undo", 2);
        put("fault", 2);
        put("box", 3, box, new int[] {0, 2});
        put("place", 2, box);
        put("swap", 8, box, box);
        put("lids", 4, new int[] {0, 511});
        put("tell", 30, new int[] {0, 59, 25}, box, new int[] {0, 2});
        put("back", 4);
        put("read", 5, sheet);
        put("step", 12, step, either);
        put("spring", 6, step, box);
        put("quiet", 4);
        put("loudest", 4, either);
        put("first", 6, box);
        put("together", 6, box, box);
        put("news", 6, box, early, box);
        put("hears", 6, box, early);
        put("hush", 2, step, either);
        put("shelf", 3, new int[] {1, 6}, either, new int[] {-1, 5});
        put("heard", 6, early, new int[] {0, 9, 3});
        put("forget", 3);
        put("learn", 6, box, new int[] {-1, 36});
        put("empty", 4);
        put("turn", 5, box, early);
        put("looks", 3, new int[] {0, 16}, box, new int[] {0, 9}, either);
        put("night", 6, new int[] {-1000, 1000}, step, either);
        put("sheet", 5, sheet, form, new int[] {0, 60});
        put("lose", 1, sheet);
        put("lay", 10, sheet, form, item, new int[] {-1, 30});
        put("get", 12, sheet, form, item);
        put("copy", 8, sheet, item, sheet, item, new int[] {0, 60, 20});
        put("write", 8, either, sheet);
        put("count", 8, new int[] {0, 8});
        put("digest", 1);
    }

    private static void put(String call, int weight, int[]... arguments) {
        ARGUMENTS.put(call, arguments);
        WEIGHTS.put(call, weight);
    }

    private final Random random;
    /** One argument in so many is below, one above, one far beyond what is well: in each second run many of them. */
    private final int oneIn;
    private final JackBoxes boxes = new JackBoxes();
    private final Oracle oracle = new Oracle();
    private final List<String> said = new ArrayList<>();

    private OracleTest(long seed) {
        random = new Random(seed);
        oneIn = seed % 2 == 0 ? 40 : 14;
    }

    public static void main(String[] args) throws Exception {
        List<Method> calls = new ArrayList<>();
        for (Method method : JackBoxes.class.getDeclaredMethods()) {
            if (java.lang.reflect.Modifier.isPublic(method.getModifiers())) {
                for (int k = 0; k < WEIGHTS.get(method.getName()); k++) {
                    calls.add(method);
                }
            }
        }
        calls.sort(java.util.Comparator.comparing(Method::getName));
        int runs = args.length > 0 ? Integer.parseInt(args[0]) : RUNS;
        for (int run = 0; run < runs; run++) {
            if (!new OracleTest(run).isAlike(calls)) {
                System.exit(1);
            }
        }
        System.out.println(runs + " runs alike");
    }

    private boolean isAlike(List<Method> calls) throws Exception {
        if (!typeBoxes()) {
            return false;
        }
        for (int k = 0; k < CALLS; k++) {
            Method method = calls.get(random.nextInt(calls.size()));
            Object[] arguments = arguments(method.getName());
            if (!ask(method, arguments) || !mendBoxes(method.getName())) {
                return false;
            }
            if (method.getName().equals("write") && !lookAt((int) arguments[1])) {
                return false;
            }
        }
        return ask(JackBoxes.class.getMethod("digest"));
    }

    /** By lot alone one would hardly ever get what was written: it takes the sheet, its form and a high item. */
    private boolean lookAt(int sheet) throws Exception {
        Method get = JackBoxes.class.getMethod("get", int.class, int.class, int.class);
        int item = random.nextInt(20);
        return ask(get, sheet, 0, item) && ask(get, sheet, 1, item) && ask(get, sheet, 2, item);
    }

    /** A text that is spoilt would make all that comes behind it dull, so it does not stay for long. */
    private boolean mendBoxes(String call) throws Exception {
        if (call.equals("wipe")) {
            return typeBoxes();
        }
        if (oracle.fault() != -1 && random.nextInt(3) > 0) {
            return ask(JackBoxes.class.getMethod("wipe")) && typeBoxes();
        }
        return true;
    }

    /** A text that is well; its laws and numbers are mostly such that much happens. */
    private boolean typeBoxes() throws Exception {
        Method type = JackBoxes.class.getMethod("type", int.class);
        int many = random.nextInt(3) > 0 ? random.nextInt(10) : 7 + random.nextInt(3);
        for (int b = 0; b < many; b++) {
            String part = (b > 0 ? ";" : "") + "tttteeeelllwwwx".charAt(random.nextInt(15))
                + (1 + random.nextInt(random.nextInt(3) > 0 ? 3 : 9)) + (1 + random.nextInt(9));
            for (char sign : part.toCharArray()) {
                if (!ask(type, (int) sign)) {
                    return false;
                }
            }
        }
        return true;
    }

    private Object[] arguments(String call) {
        int[][] bounds = ARGUMENTS.get(call);
        Object[] arguments = new Object[bounds.length];
        for (int k = 0; k < bounds.length; k++) {
            arguments[k] = argument(bounds[k][0], bounds[k][1], bounds[k][bounds[k].length - 1]);
        }
        return arguments;
    }

    private int argument(int low, int high, int lively) {
        switch (random.nextInt(oneIn)) {
            case 0: return low - 1;
            case 1: return high + 1;
            case 2: return random.nextBoolean() ? Integer.MAX_VALUE : Integer.MIN_VALUE;
            case 3: return random.nextInt();
            case 4: return high;
            case 5: return low;
            default: return low + random.nextInt(lively - low + 1);
        }
    }

    private boolean ask(Method method, Object... arguments) throws Exception {
        String call = method.getName() + java.util.Arrays.toString(arguments);
        long got = ((Number) method.invoke(boxes, arguments)).longValue();
        Method twin = Oracle.class.getMethod(method.getName(), method.getParameterTypes());
        long want = ((Number) twin.invoke(oracle, arguments)).longValue();
        said.add(call + " = " + want);
        if (got != want) {
            said.forEach(System.out::println);
            System.out.println(call + " answered " + got + ", the oracle says " + want);
        }
        return got == want;
    }
}
