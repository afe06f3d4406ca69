import java.lang.reflect.InvocationTargetException;
import java.lang.reflect.Method;
import java.util.ArrayList;
import java.util.Arrays;
import java.util.HashMap;
import java.util.List;
import java.util.Map;

/**
 * An object that a test leads by calls. The calls are kept, so that a refused one can be looked at
 * from outside: two more objects are made by the same calls, one without it, and must be alike.
 */
final class Shelf {
    static final int NONE = -1, BAD = -2, NOT = -3, FULL = -4;
    static final int NULL = -11, INDEX = -12, CAST = -13, STORE = -14, SIZE = -15;
    static final int LEAST_INT = Integer.MIN_VALUE;
    static final long LONG_BAD = Long.MIN_VALUE + 2;
    static final int TURNED = 0, LOOKED = 1, SHUT = 2;
    static final int OPENS = 0, UP = 1;

    /** Behind so many calls the answers are free, so that no test may lean on them. */
    private static final int MOST_CALLS = 512;
    private static final int FINDINGS = 10;

    private static final Map<String, Method> FACE = new HashMap<>();

    static {
        for (Method method : JackBoxes.class.getMethods()) {
            if (method.getDeclaringClass() == JackBoxes.class) {
                FACE.put(method.getName(), method);
            }
        }
    }

    private record Call(String name, int[] arguments) {
        @Override
        public String toString() {
            return name + Arrays.toString(arguments).replace('[', '(').replace(']', ')');
        }
    }

    private final Check check;
    private final String about;
    private final JackBoxes object = new JackBoxes();
    private final List<Call> calls = new ArrayList<>();
    private int made = 0;

    Shelf(Check check, String about, String text) {
        this.check = check;
        this.about = about;
        type(text);
    }

    Shelf type(String text) {
        for (char sign : text.toCharArray()) {
            then("type", sign);
        }
        return this;
    }

    /** A call whose answer is not looked at. */
    Shelf then(String name, int... arguments) {
        ask(name, arguments);
        return this;
    }

    /** What is answered, of a call that is made. */
    long ask(String name, int... arguments) {
        calls.add(new Call(name, arguments));
        made++;
        if (made > MOST_CALLS) {
            throw new IllegalStateException(about + ": more than 512 calls");
        }
        return answer(object, name, arguments);
    }

    void due(long want, String name, int... arguments) {
        check.due(about + ": " + new Call(name, arguments), ask(name, arguments), want);
    }

    /** A sheet's form and items, all that it has. */
    Shelf lay(int s, int form, int... items) {
        then("sheet", s, form, items.length);
        for (int i = 0; i < items.length; i++) {
            then("lay", s, form, i, items[i]);
        }
        return this;
    }

    void dueItems(int s, int form, int... items) {
        for (int i = 0; i < items.length; i++) {
            due(items[i], "get", s, form, i);
        }
    }

    /** A refused call: its answer, and that it changes nothing, but count() 8 by a FINDING. */
    void refused(long want, String name, int... arguments) {
        boolean isFinding = want < -FINDINGS && want >= SIZE;
        refusedWith(isFinding ? (int) (-FINDINGS - want) : 0, want, name, arguments);
    }

    /** As refused(), where the answer does not tell the FINDING; 0 if there is none. */
    void refusedWith(int finding, long want, String name, int... arguments) {
        List<Call> before = new ArrayList<>(calls);
        String call = about + ": " + new Call(name, arguments);
        check.due(call, ask(name, arguments), want);
        long latest = finding == 0 ? madeBy(before).count(8) : finding;
        check.due(call + ", then count(8)", madeBy(calls).count(8), latest);
        check.holds(call + " changes nothing", portrait(calls).equals(portrait(before)));
        if (finding == 0) {
            // it has been seen to change nothing, so what comes behind it need not make it again
            calls.remove(calls.size() - 1);
        }
    }

    /**
     * Each argument by itself below its least and above its greatest, the others being well: all refused.
     * Bounds are the least and the greatest of each argument; the least of each must be well.
     */
    void refusedOutside(long want, String name, int[]... bounds) {
        for (int k = 0; k < bounds.length; k++) {
            int[] outside = {bounds[k][0] - 1, bounds[k][1] + 1, Integer.MIN_VALUE, Integer.MAX_VALUE};
            for (int value : outside) {
                int[] arguments = new int[bounds.length];
                for (int other = 0; other < bounds.length; other++) {
                    arguments[other] = other == k ? value : bounds[other][0];
                }
                refusedWith(0, want, name, arguments);
            }
        }
    }

    static int[] to(int least, int greatest) {
        return new int[] {least, greatest};
    }

    private static JackBoxes madeBy(List<Call> calls) {
        JackBoxes made = new JackBoxes();
        for (Call call : calls) {
            answer(made, call.name(), call.arguments());
        }
        return made;
    }

    private static long answer(JackBoxes object, String name, int... arguments) {
        Object[] boxed = Arrays.stream(arguments).boxed().toArray();
        try {
            return ((Number) FACE.get(name).invoke(object, boxed)).longValue();
        } catch (IllegalAccessException | InvocationTargetException thrown) {
            throw new IllegalStateException(name + Arrays.toString(arguments), thrown);
        }
    }

    /**
     * All that can be seen of an object made by these calls, but its latest FINDING. Each part is looked at
     * in an object of its own, as looking takes it to pieces and may not need more than 512 calls.
     */
    private static List<Long> portrait(List<Call> calls) {
        List<Long> seen = new ArrayList<>();
        addWhole(madeBy(calls), seen);
        for (int s = 0; s < 4; s++) {
            int size = madeBy(calls).lose(s);
            seen.add((long) size);
            addItems(madeBy(calls), s, size, seen);
        }
        addTold(madeBy(calls), seen);
        addHeard(madeBy(calls), seen);
        addText(madeBy(calls), seen);
        return seen;
    }

    private static void addWhole(JackBoxes x, List<Long> seen) {
        seen.add(x.digest());
        for (int what = 0; what <= 7; what++) {
            seen.add((long) x.count(what));
        }
        for (int place = 0; place < 9; place++) {
            seen.add((long) x.place(place));
        }
    }

    private static void addItems(JackBoxes x, int s, int size, List<Long> seen) {
        for (int form = 0; form < 3; form++) {
            seen.add((long) x.get(s, form, size));
            seen.add((long) x.count(8));
            for (int i = 0; i < size; i++) {
                seen.add((long) x.get(s, form, i));
            }
        }
    }

    private static void addTold(JackBoxes x, List<Long> seen) {
        for (long left = 0; left >= 0;) {
            seen.add((long) x.count(6));
            seen.add((long) x.quiet());
            seen.add((long) x.step(59, UP));
            left = x.back();
            seen.add(left);
        }
    }

    private static void addHeard(JackBoxes x, List<Long> seen) {
        for (int box = 0; box < x.count(0); box++) {
            seen.add((long) x.learn(box, NONE));
        }
        seen.add((long) x.empty());
        seen.add((long) x.forget());
    }

    private static void addText(JackBoxes x, List<Long> seen) {
        for (long left = 0; left >= 0;) {
            seen.add((long) x.fault());
            left = x.undo();
            seen.add(left);
        }
    }
}
