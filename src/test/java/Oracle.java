import java.math.BigInteger;
import java.util.ArrayList;
import java.util.Arrays;
import java.util.List;
import java.util.TreeMap;

/**
 * The document once more, as plainly as its words allow and without regard to cost: laws look back
 * over the whole history of the shelf instead of keeping counters.
 */
public final class Oracle {
    private static final int NONE = -1, BAD = -2, NOT = -3, FULL = -4;

    /** What one box is. */
    private record Jack(int law, int number, int spring) { }

    /** All that decides what happens. */
    private static final class World {
        List<Jack> jacks = new ArrayList<>();
        List<Integer> row = new ArrayList<>();
        int lids;
        List<int[]> told = new ArrayList<>();

        World twin() {
            World twin = new World();
            twin.jacks.addAll(jacks);
            twin.row.addAll(row);
            twin.lids = lids;
            twin.told.addAll(told);
            return twin;
        }

        World withLaw(int box, int code) {
            World twin = twin();
            twin.jacks.set(box, new Jack(code / 10, code % 10, jacks.get(box).spring()));
            return twin;
        }

        World withTold(int step, int box, int what) {
            World twin = twin();
            twin.told.add(new int[] {step, box, what});
            return twin;
        }

        boolean isTold(int step, int box, int what) {
            for (int[] one : told) {
                if (one[0] == step && one[1] == box && one[2] == what) {
                    return true;
                }
            }
            return false;
        }

        boolean hasLid(int box) {
            return (lids & (1 << box)) != 0;
        }
    }

    /** The history of a world: by step and box, who was up at its beginning, opened in it, was up behind it. */
    private static final class History {
        final World world;
        final boolean[][] opened;
        final boolean[][] upBehind;

        History(World world, int steps) {
            this.world = world;
            int boxes = world.jacks.size();
            opened = new boolean[steps][boxes];
            upBehind = new boolean[steps][boxes];
            for (int s = 0; s < steps; s++) {
                for (int b = 0; b < boxes; b++) {
                    opened[s][b] = shutAtBeginning(s, b) && !world.hasLid(b) && left(s - 1, b) > 0 && byLaw(s, b);
                }
                for (int b = 0; b < boxes; b++) {
                    boolean up = !shutAtBeginning(s, b) || opened[s][b];
                    upBehind[s][b] = up && !world.isTold(s, b, 2);
                }
            }
        }

        boolean shutAtBeginning(int s, int b) {
            return s == 0 || !upBehind[s - 1][b];
        }

        int left(int s, int b) {
            int left = world.jacks.get(b).spring();
            for (int k = 0; k <= s; k++) {
                left -= opened[k][b] ? 1 : 0;
            }
            return left;
        }

        int lastOpened(int before, int b) {
            for (int k = before - 1; k >= 0; k--) {
                if (opened[k][b]) {
                    return k;
                }
            }
            return -1;
        }

        boolean byLaw(int s, int b) {
            int number = world.jacks.get(b).number();
            return switch (world.jacks.get(b).law()) {
                case 0 -> isTurned(s, b) && turnsSince(lastOpened(s, b), s, b) == number;
                case 1 -> s > 0 && anotherOpenedNear(s - 1, b, number);
                case 2 -> allUnseen(s, b, number);
                case 3 -> s > 0 && Integer.bitCount(bits(upBehind[s - 1])) >= number;
                default -> false;
            };
        }

        boolean isTurned(int s, int b) {
            return world.isTold(s, b, 0) && shutAtBeginning(s, b) && !world.hasLid(b);
        }

        int turnsSince(int since, int to, int b) {
            int turns = 0;
            for (int k = since + 1; k <= to; k++) {
                turns += isTurned(k, b) ? 1 : 0;
            }
            return turns;
        }

        boolean anotherOpenedNear(int s, int b, int number) {
            for (int other = 0; other < world.jacks.size(); other++) {
                int off = Math.abs(world.row.indexOf(b) - world.row.indexOf(other));
                if (other != b && opened[s][other] && off <= number) {
                    return true;
                }
            }
            return false;
        }

        boolean allUnseen(int s, int b, int number) {
            int from = s - number + 1;
            if (from < 0 || from <= lastOpened(s, b)) {
                return false;
            }
            for (int k = from; k <= s; k++) {
                if (!shutAtBeginning(k, b) || world.isTold(k, b, 1)) {
                    return false;
                }
            }
            return true;
        }

        int openBits(int s) {
            return bits(opened[s]);
        }

        int upBits(int s) {
            return bits(upBehind[s]);
        }

        int openTo(int s) {
            int many = 0;
            for (int k = 0; k <= s; k++) {
                many += Integer.bitCount(openBits(k));
            }
            return many;
        }

        static int bits(boolean[] row) {
            int bits = 0;
            for (int b = 0; b < row.length; b++) {
                bits += row[b] ? 1 << b : 0;
            }
            return bits;
        }
    }

    private final StringBuilder text = new StringBuilder();
    private final World world = new World();
    private final List<int[]> heardList = new ArrayList<>();
    /** A sheet is a byte[], a short[], an int[], or null. */
    private final Object[] sheets = new Object[4];
    private int latest = 0;

    public Oracle() {
        for (int b = 0; b < 9; b++) {
            world.row.add(b);
        }
    }

    private static boolean in(int x, int low, int high) {
        return low <= x && x <= high;
    }

    private boolean isBox(int b) {
        return in(b, 0, world.jacks.size() - 1);
    }

    private History asTold() {
        return new History(world, 60);
    }

    private void parse() {
        world.jacks.clear();
        if (fault() == NONE && text.length() > 0) {
            for (String part : text.toString().split(";")) {
                world.jacks.add(new Jack("telwx".indexOf(part.charAt(0)), part.charAt(1) - 48, part.charAt(2) - 48));
            }
        }
    }

    public int type(int b) {
        if (!in(b, 0, 255)) return BAD;
        if (text.length() == 35) return FULL;
        text.append((char) b);
        parse();
        return text.length();
    }

    public int wipe() {
        int had = text.length();
        text.setLength(0);
        parse();
        return had;
    }

    public int undo() {
        if (text.length() == 0) return NOT;
        text.setLength(text.length() - 1);
        parse();
        return text.length();
    }

    public int fault() {
        String s = text.toString();
        String whole = "[telwx][1-9][1-9](;[telwx][1-9][1-9]){0,8}";
        if (s.isEmpty() || s.matches(whole)) return NONE;
        // the longest beginning from which some text can still be reached
        for (int n = s.length(); n >= 0; n--) {
            String begun = s.substring(0, n);
            String[] ends = {"", "1", "11", "t11", ";t11"};
            for (String end : ends) {
                if ((begun + end).matches(whole)) {
                    return n;
                }
            }
        }
        return 0;
    }

    public int box(int box, int what) {
        if (!isBox(box) || !in(what, 0, 2)) return BAD;
        Jack jack = world.jacks.get(box);
        return new int[] {jack.law(), jack.number(), jack.spring()}[what];
    }

    public int place(int place) {
        return in(place, 0, 8) ? world.row.get(place) : BAD;
    }

    public int swap(int a, int b) {
        if (!in(a, 0, 8) || !in(b, 0, 8)) return BAD;
        java.util.Collections.swap(world.row, a, b);
        return a == b ? 0 : 1;
    }

    public int lids(int boxes) {
        if (!in(boxes, 0, 511)) return BAD;
        int were = world.lids;
        world.lids = boxes;
        return were;
    }

    private static boolean mayBeTold(int step, int box, int what) {
        return in(step, 0, 59) && in(box, 0, 8) && in(what, 0, 2);
    }

    public int tell(int step, int box, int what) {
        if (!mayBeTold(step, box, what)) return BAD;
        if (world.told.size() == 24) return FULL;
        world.told.add(new int[] {step, box, what});
        return world.told.size();
    }

    public int back() {
        if (world.told.isEmpty()) return NOT;
        world.told.remove(world.told.size() - 1);
        return world.told.size();
    }

    public int read(int s) {
        if (!in(s, 0, 3)) return BAD;
        if (sheets[s] == null) return find(1);
        int many = 0;
        int length = java.lang.reflect.Array.getLength(sheets[s]);
        for (int k = 0; k < length / 3; k++) {
            int[] one = {item(sheets[s], 3 * k), item(sheets[s], 3 * k + 1), item(sheets[s], 3 * k + 2)};
            if (!mayBeTold(one[0], one[1], one[2]) || world.told.size() == 24) break;
            world.told.add(one);
            many++;
        }
        return many;
    }

    public int step(int step, int what) {
        if (!in(step, 0, 59) || !in(what, 0, 1)) return BAD;
        return what == 0 ? asTold().openBits(step) : asTold().upBits(step);
    }

    public int spring(int step, int box) {
        if (!in(step, 0, 59) || !isBox(box)) return BAD;
        return asTold().left(step, box);
    }

    public int quiet() {
        History history = asTold();
        for (int s = 0; s < 60; s++) {
            boolean quiet = true;
            for (int k = s; k < 60; k++) {
                quiet &= history.openBits(k) == 0;
            }
            if (quiet) return s;
        }
        return NONE;
    }

    public int loudest(int what) {
        if (!in(what, 0, 1)) return BAD;
        History history = asTold();
        for (int many = 9; many > 0; many--) {
            for (int s = 0; s < 60; s++) {
                if (Integer.bitCount(history.openBits(s)) == many) return what == 0 ? s : many;
            }
        }
        return NONE;
    }

    public int first(int box) {
        if (!isBox(box)) return BAD;
        History history = asTold();
        for (int s = 0; s < 60; s++) {
            if (history.opened[s][box]) return s;
        }
        return NONE;
    }

    public int together(int a, int b) {
        if (!isBox(a) || !isBox(b) || a == b) return BAD;
        History history = asTold();
        int many = 0;
        for (int s = 0; s < 60; s++) {
            many += history.upBehind[s][a] && history.upBehind[s][b] ? 1 : 0;
        }
        return many;
    }

    private boolean[] having(int from, int step, int last) {
        History history = asTold();
        int n = world.jacks.size();
        boolean[] has = new boolean[n];
        has[from] = true;
        for (int s = step; s <= last; s++) {
            boolean[] had = has.clone();
            for (int a = 0; a < n; a++) {
                for (int b = 0; b < n; b++) {
                    if (had[a] && history.upBehind[s][a] && history.upBehind[s][b]) has[b] = true;
                }
            }
        }
        return has;
    }

    public int news(int from, int step, int to) {
        if (!isBox(from) || !in(step, 0, 59) || !isBox(to) || from == to) return BAD;
        for (int s = step; s < 60; s++) {
            if (having(from, step, s)[to]) return s;
        }
        return NONE;
    }

    public int hears(int from, int step) {
        if (!isBox(from) || !in(step, 0, 59)) return BAD;
        return History.bits(having(from, step, 59));
    }

    public int hush(int step, int what) {
        if (!in(step, 0, 59) || !in(what, 0, 1)) return BAD;
        int best = NONE;
        for (int more = 0; more < 1 << world.jacks.size(); more++) {
            if ((more & world.lids) != 0) continue;
            if (best != NONE && Integer.bitCount(more) >= Integer.bitCount(best)) continue;
            World twin = world.twin();
            twin.lids |= more;
            if (new History(twin, step + 1).upBits(step) == 0) best = more;
        }
        return best == NONE ? NONE : what == 0 ? Integer.bitCount(best) : best;
    }

    private static void rows(List<Integer> begun, int n, List<List<Integer>> all) {
        if (begun.size() == n) {
            all.add(new ArrayList<>(begun));
            return;
        }
        for (int b = 0; b < n; b++) {
            if (!begun.contains(b)) {
                begun.add(b);
                rows(begun, n, all);
                begun.remove(begun.size() - 1);
            }
        }
    }

    public int shelf(int n, int loud, int i) {
        if (!in(n, 1, 6) || n > world.jacks.size() || !in(loud, 0, 1) || !in(i, -1, n - 1)) return BAD;
        List<List<Integer>> all = new ArrayList<>();
        rows(new ArrayList<>(), n, all);
        TreeMap<Integer, List<Integer>> firstByMany = new TreeMap<>();
        for (List<Integer> row : all) {
            World twin = world.twin();
            twin.row = new ArrayList<>(row);
            for (int b = n; b < 9; b++) twin.row.add(b);
            firstByMany.putIfAbsent(new History(twin, 20).openTo(19), row);
        }
        var chosen = loud == 1 ? firstByMany.lastEntry() : firstByMany.firstEntry();
        return i == NONE ? chosen.getKey() : chosen.getValue().get(i);
    }

    public int heard(int step, int many) {
        if (!in(step, 0, 59) || !in(many, 0, 9)) return BAD;
        if (heardList.size() == 8) return FULL;
        heardList.add(new int[] {step, many});
        return heardList.size();
    }

    public int forget() {
        int had = heardList.size();
        heardList.clear();
        return had;
    }

    private boolean comesOut(World tried) {
        History history = new History(tried, 60);
        for (int[] one : heardList) {
            if (Integer.bitCount(history.openBits(one[0])) != one[1]) return false;
        }
        return true;
    }

    private List<Integer> laws(int box) {
        List<Integer> laws = new ArrayList<>();
        for (int law = 0; law < 4; law++) {
            for (int number = 1; number <= 9; number++) {
                if (comesOut(world.withLaw(box, 10 * law + number))) laws.add(10 * law + number);
            }
        }
        if (comesOut(world.withLaw(box, 40))) laws.add(40);
        return laws;
    }

    public int learn(int box, int i) {
        if (!isBox(box) || !in(i, -1, 36)) return BAD;
        List<Integer> laws = laws(box);
        return i == NONE ? laws.size() : i < laws.size() ? laws.get(i) : NONE;
    }

    public int empty() {
        int bits = 0;
        for (int b = 0; b < world.jacks.size(); b++) {
            bits += comesOut(world.withLaw(b, 40)) ? 1 << b : 0;
        }
        return bits;
    }

    public int turn(int box, int step) {
        if (!isBox(box) || !in(step, 0, 59)) return BAD;
        List<Integer> laws = laws(box);
        int chosen = NONE;
        long least = Long.MAX_VALUE;
        for (int c = 0; c < world.jacks.size(); c++) {
            TreeMap<Integer, Integer> groups = new TreeMap<>();
            for (int code : laws) {
                World tried = world.withLaw(box, code).withTold(step, c, 0);
                groups.merge(Integer.bitCount(new History(tried, step + 1).openBits(step)), 1, Integer::sum);
            }
            long greatest = groups.values().stream().mapToInt(g -> g).max().orElse(0);
            if (greatest < least) {
                least = greatest;
                chosen = c;
            }
        }
        return chosen;
    }

    private BigInteger ways(World begun, int c, int box, int step, int s) {
        if (s > step) {
            boolean up = new History(begun, step + 1).upBehind[step][box];
            return up ? BigInteger.ONE : BigInteger.ZERO;
        }
        BigInteger looked = ways(begun.withTold(s, box, 1), c, box, step, s + 1);
        BigInteger not = ways(begun, c, box, step, s + 1);
        return looked.multiply(BigInteger.valueOf(c)).add(not.multiply(BigInteger.valueOf(16 - c)));
    }

    public long looks(int c, int box, int step, int what) {
        if (!in(c, 0, 16) || !isBox(box) || !in(step, 0, 9) || !in(what, 0, 1)) return Long.MIN_VALUE + 2;
        World unlooked = world.twin();
        unlooked.told.removeIf(one -> one[1] == box && one[2] == 1);
        BigInteger above = ways(unlooked, c, box, step, 0);
        BigInteger below = BigInteger.valueOf(16).pow(step + 1);
        BigInteger divisor = above.gcd(below);
        return (what == 0 ? above : below).divide(divisor).longValueExact();
    }

    public int night(int seed, int step, int what) {
        if (!in(step, 0, 59) || !in(what, 0, 1)) return BAD;
        World twin = world.twin();
        long lot = seed;
        for (int s = 0; s <= step; s++) {
            lot = (1103515245L * lot + 12345L) & 0xFFFFFFFFL;
            if (!world.jacks.isEmpty()) {
                twin.told.add(new int[] {s, (int) ((lot / 65536) % world.jacks.size()), 0});
            }
        }
        History history = new History(twin, step + 1);
        return what == 0 ? history.openTo(step) : history.upBits(step);
    }

    private int find(int number) {
        latest = number;
        return -10 - number;
    }

    private static int item(Object sheet, int i) {
        return java.lang.reflect.Array.getInt(sheet, i);
    }

    private static int formOf(Object sheet) {
        return sheet instanceof byte[] ? 0 : sheet instanceof short[] ? 1 : 2;
    }

    private static void set(Object sheet, int i, int v) {
        if (sheet instanceof byte[] row) row[i] = (byte) v;
        if (sheet instanceof short[] row) row[i] = (short) v;
        if (sheet instanceof int[] row) row[i] = v;
    }

    public int sheet(int s, int form, int n) {
        if (!in(s, 0, 3) || !in(form, 0, 2) || n > 60) return BAD;
        if (n < 0) return find(5);
        sheets[s] = form == 0 ? new byte[n] : form == 1 ? new short[n] : new int[n];
        return n;
    }

    public int lose(int s) {
        if (!in(s, 0, 3)) return BAD;
        if (sheets[s] == null) return find(1);
        int had = java.lang.reflect.Array.getLength(sheets[s]);
        sheets[s] = null;
        return had;
    }

    private int wrongAt(int s, int form, int i) {
        if (sheets[s] == null) return 1;
        if (formOf(sheets[s]) != form) return 3;
        return in(i, 0, java.lang.reflect.Array.getLength(sheets[s]) - 1) ? 0 : 2;
    }

    public int lay(int s, int form, int i, int v) {
        if (!in(s, 0, 3) || !in(form, 0, 2)) return BAD;
        int wrong = wrongAt(s, form, i);
        if (wrong != 0) return find(wrong);
        set(sheets[s], i, v);
        return 1;
    }

    public int get(int s, int form, int i) {
        if (!in(s, 0, 3) || !in(form, 0, 2)) return Integer.MIN_VALUE;
        int wrong = wrongAt(s, form, i);
        if (wrong != 0) {
            find(wrong);
            return Integer.MIN_VALUE;
        }
        return item(sheets[s], i);
    }

    public int copy(int s, int i, int t, int j, int n) {
        if (!in(s, 0, 3) || !in(t, 0, 3)) return BAD;
        if (sheets[s] == null || sheets[t] == null) return find(1);
        try {
            System.arraycopy(sheets[s], i, sheets[t], j, n);
            return 1;
        } catch (ArrayStoreException unlike) {
            return find(4);
        } catch (IndexOutOfBoundsException outside) {
            return find(2);
        }
    }

    public int write(int what, int s) {
        if (!in(what, 0, 1) || !in(s, 0, 3)) return BAD;
        if (sheets[s] == null) return find(1);
        int length = java.lang.reflect.Array.getLength(sheets[s]);
        for (int i = 0; i < length; i++) {
            set(sheets[s], i, step(i, what));
        }
        return length;
    }

    public int count(int what) {
        return switch (what) {
            case 0 -> world.jacks.size();
            case 1 -> text.length();
            case 2 -> world.told.size();
            case 3 -> heardList.size();
            case 4 -> world.lids;
            case 5 -> world.jacks.stream().mapToInt(Jack::spring).sum();
            case 6 -> asTold().openTo(59);
            case 7 -> (int) world.jacks.stream().filter(jack -> jack.law() == 4).count();
            case 8 -> latest;
            default -> BAD;
        };
    }

    public long digest() {
        List<Long> all = new ArrayList<>();
        for (int k = 0; k < 8; k++) all.add((long) count(k));
        all.add((long) fault());
        for (int p = 0; p < 9; p++) all.add((long) place(p));
        for (int b = 0; b < world.jacks.size(); b++) {
            int[] ints = {box(b, 0), box(b, 1), box(b, 2), first(b), spring(9, b), together(b, 0), hears(b, 2),
                learn(b, -1), learn(b, 0)};
            Arrays.stream(ints).forEach(x -> all.add((long) x));
            all.add(looks(5, b, 4, 0));
            all.add(looks(5, b, 4, 1));
        }
        for (int s : List.of(0, 1, 2, 9, 59)) {
            all.add((long) step(s, 0));
            all.add((long) step(s, 1));
        }
        int[] ints = {quiet(), loudest(0), loudest(1), news(0, 0, 1), hush(9, 0), hush(9, 1),
            shelf(3, 0, -1), shelf(3, 0, 0), shelf(3, 1, -1), shelf(3, 1, 0), empty(), turn(0, 4),
            night(7, 20, 0), night(7, 20, 1)};
        Arrays.stream(ints).forEach(x -> all.add((long) x));
        long h = 17;
        for (long x : all) h = 31 * h + x;
        return h;
    }
}
