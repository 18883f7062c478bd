import java.util.ArrayList;
import java.util.List;
import java.util.TreeMap;

/**
 * The document once more, as plainly as may be and without thrift: what the class answers is
 * compared with this. A refused call throws what is due.
 */
final class Model {
    private static final String WAYS = "012102021201120210";

    private record Box(int[] sizes, int grams, boolean[] weak) {
    }

    private record Row(int thickness, TreeMap<Integer, Integer> points) {
    }

    private record Crate(long length, long width, long height) {
        long product() {
            return length * width * height;
        }
    }

    private final List<Box> boxes = new ArrayList<>();
    private final List<List<Row>> foams = List.of(
            new ArrayList<>(), new ArrayList<>(), new ArrayList<>(), new ArrayList<>());
    private final List<Crate> crates = new ArrayList<>();
    private final List<Integer> taken = new ArrayList<>();
    private final List<Integer> inside = new ArrayList<>();
    private final List<Integer> drops = new ArrayList<>();
    private Crate latest;
    private int[] latestWays;
    private int[] latestStarts;
    private int lag = 4;
    private int peak = Integer.MAX_VALUE;
    private int longest = Integer.MAX_VALUE;
    private int shocks;
    private int told;

    private static void index(boolean fine) {
        if (!fine) {
            throw new IndexOutOfBoundsException();
        }
    }

    private static void state(boolean fine) {
        if (!fine) {
            throw new IllegalStateException();
        }
    }

    private static void argument(boolean fine) {
        if (!fine) {
            throw new IllegalArgumentException();
        }
    }

    private static boolean within(int n, int least, int most) {
        return least <= n && n <= most;
    }

    int object(int a, int b, int c, int grams) {
        state(boxes.size() < 6);
        argument(within(a, 1, 200) && within(b, 1, 200) && within(c, 1, 200) && within(grams, 1, 100000));
        boxes.add(new Box(new int[] {a, b, c}, grams, new boolean[6]));
        return boxes.size() - 1;
    }

    boolean weak(int object, int side, boolean on) {
        index(within(object, 0, boxes.size() - 1) && within(side, 0, 5));
        boolean changes = boxes.get(object).weak[side] != on;
        boxes.get(object).weak[side] = on;
        return changes;
    }

    int foam(int kind, int thickness) {
        index(within(kind, 0, 3));
        List<Row> rows = foams.get(kind);
        state(rows.size() < 8);
        argument(within(thickness, 1, 500));
        argument(rows.isEmpty() || thickness > rows.get(rows.size() - 1).thickness);
        rows.add(new Row(thickness, new TreeMap<>()));
        return rows.size() - 1;
    }

    private TreeMap<Integer, Integer> points(int kind, int row) {
        index(within(kind, 0, 3));
        index(within(row, 0, foams.get(kind).size() - 1));
        return foams.get(kind).get(row).points;
    }

    int point(int kind, int row, int stress, int value) {
        TreeMap<Integer, Integer> points = points(kind, row);
        state(points.size() < 6);
        argument(within(stress, 0, 10000) && within(value, 1, 1000));
        argument(points.isEmpty() || stress > points.lastKey());
        points.put(stress, value);
        return points.size();
    }

    int value(int kind, int row, int stress) {
        TreeMap<Integer, Integer> points = points(kind, row);
        Integer left = points.floorKey(stress);
        Integer right = points.ceilingKey(stress);
        if (left == null || right == null) {
            return -1;
        }
        if (left.equals(right)) {
            return points.get(left);
        }
        // The least whole number that is not below the line.
        long run = right - left;
        long onLine = points.get(left) * run + (long) (points.get(right) - points.get(left)) * (stress - left);
        int up = 0;
        while (up * run < onLine) {
            up++;
        }
        return up;
    }

    int thickness(int kind, int stress, int limit) {
        index(within(kind, 0, 3));
        return halve(kind, stress, limit, 0, foams.get(kind).size());
    }

    private int halve(int kind, int stress, int limit, int low, int high) {
        if (low >= high) {
            return low < foams.get(kind).size() ? foams.get(kind).get(low).thickness : -1;
        }
        int row = (low + high) / 2;
        int value = value(kind, row, stress);
        return value >= 0 && value <= limit
                ? halve(kind, stress, limit, low, row)
                : halve(kind, stress, limit, row + 1, high);
    }

    private int sizeOf(int object, int way, int axis) {
        return boxes.get(object).sizes[WAYS.charAt(3 * way + axis) - '0'];
    }

    int pack(int objects, int gap) {
        for (int bit = boxes.size(); bit < 32; bit++) {
            index((objects >>> bit & 1) == 0);
        }
        argument(objects != 0 && within(gap, 0, 20));
        List<Integer> members = new ArrayList<>();
        for (int object = 0; object < boxes.size(); object++) {
            if ((objects >>> object & 1) == 1) {
                members.add(object);
            }
        }
        int all = (int) Math.round(Math.pow(6, members.size()));
        Crate best = null;
        int[] bestWays = null;
        for (int code = 0; code < all; code++) {
            int[] ways = waysOf(code, members);
            Crate crate = ways == null ? null : crateOf(ways, members, gap);
            if (crate != null && (best == null || crate.product() < best.product())) {
                best = crate;
                bestWays = ways;
            }
        }
        if (best == null) {
            return -1;
        }
        latest = best;
        latestWays = bestWays;
        latestStarts = new int[] {-1, -1, -1, -1, -1, -1};
        int start = gap;
        for (int object : members) {
            latestStarts[object] = start;
            start += sizeOf(object, bestWays[object], 0) + gap;
        }
        return members.size();
    }

    /** The ways of a code in base six, the first object its highest digit; null on a weak side. */
    private int[] waysOf(int code, List<Integer> members) {
        int[] ways = {-1, -1, -1, -1, -1, -1};
        int rest = code;
        for (int n = members.size() - 1; n >= 0; n--) {
            ways[members.get(n)] = rest % 6;
            rest /= 6;
            if (boxes.get(members.get(n)).weak[ways[members.get(n)]]) {
                return null;
            }
        }
        return ways;
    }

    private Crate crateOf(int[] ways, List<Integer> members, int gap) {
        int length = gap;
        int width = 0;
        int height = 0;
        for (int object : members) {
            length += sizeOf(object, ways[object], 0) + gap;
            width = Math.max(width, sizeOf(object, ways[object], 1));
            height = Math.max(height, sizeOf(object, ways[object], 2));
        }
        return new Crate(length, width + 2 * gap, height + 2 * gap);
    }

    int size(int axis) {
        index(within(axis, 0, 2));
        state(latest != null);
        return (int) (axis == 0 ? latest.length : axis == 1 ? latest.width : latest.height);
    }

    int at(int object, int what) {
        index(within(object, 0, boxes.size() - 1) && within(what, -1, 0));
        state(latest != null);
        return what == -1 ? latestWays[object] : latestStarts[object];
    }

    int crate(int length, int width, int height) {
        state(crates.size() < 10);
        argument(within(length, 1, 2000) && within(width, 1, 2000) && within(height, 1, 2000));
        crates.add(new Crate(length, width, height));
        return crates.size() - 1;
    }

    int match() {
        state(latest != null);
        int best = -1;
        for (int n = crates.size() - 1; n >= 0; n--) {
            Crate crate = crates.get(n);
            boolean fits = Math.max(crate.length, crate.width) >= Math.max(latest.length, latest.width)
                    && Math.min(crate.length, crate.width) >= Math.min(latest.length, latest.width)
                    && crate.height >= latest.height;
            if (fits && !taken.contains(n) && (best < 0 || crate.product() <= crates.get(best).product())) {
                best = n;
            }
        }
        if (best >= 0) {
            taken.add(best);
        }
        return best;
    }

    boolean free(int crate) {
        index(within(crate, 0, crates.size() - 1));
        return taken.remove((Integer) crate);
    }

    int split(int grams) {
        argument(grams >= 1);
        for (Box box : boxes) {
            if (box.grams > grams) {
                return -1;
            }
        }
        return part(0, new long[6], 0, grams);
    }

    private int part(int object, long[] loads, int used, int grams) {
        if (object == boxes.size()) {
            return used;
        }
        int least = 7;
        for (int crate = 0; crate <= used && crate < 6; crate++) {
            if (loads[crate] + boxes.get(object).grams <= grams) {
                loads[crate] += boxes.get(object).grams;
                least = Math.min(least, part(object + 1, loads, Math.max(used, crate + 1), grams));
                loads[crate] -= boxes.get(object).grams;
            }
        }
        return least;
    }

    int lag(int hours) {
        argument(within(hours, 1, 100));
        int was = lag;
        lag = hours;
        return was;
    }

    int climate(int degrees) {
        state(inside.size() < 200);
        argument(within(degrees, -60, 60));
        int before = inside.isEmpty() ? 20000 : inside.get(inside.size() - 1);
        int difference = degrees * 1000 - before;
        int step = difference / lag;
        while (step * lag > difference) {
            step--;
        }
        inside.add(before + step);
        return before + step;
    }

    int inside(int hour) {
        index(within(hour, 0, inside.size() - 1));
        return inside.get(hour);
    }

    int steady(int low, int high) {
        argument(low <= high);
        int best = 0;
        for (int from = 0; from < inside.size(); from++) {
            int to = from;
            while (to < inside.size() && within(inside.get(to), low, high)) {
                to++;
            }
            best = Math.max(best, to - from);
        }
        return best;
    }

    int limit(int peakAsked, int length) {
        argument(within(peakAsked, 1, 10000) && within(length, 1, 10000));
        peak = peakAsked;
        longest = length;
        return 0;
    }

    boolean shock(int g, int milliseconds) {
        argument(within(g, 0, 10000) && within(milliseconds, 0, 10000));
        shocks++;
        boolean tells = g > peak || (g > peak / 2 && milliseconds > longest);
        told += tells ? 1 : 0;
        return tells;
    }

    int route(int seed, int legs) {
        argument(within(seed, 0, 65536) && within(legs, 1, 50));
        drops.clear();
        long s = seed;
        int sum = 0;
        for (int leg = 0; leg < legs; leg++) {
            s = (s * 75 + 74) % 65537;
            drops.add(10 + (int) (s % 91));
            sum += drops.get(leg);
        }
        return sum;
    }

    int drop(int leg) {
        index(within(leg, 0, drops.size() - 1));
        return drops.get(leg);
    }

    int count(int what) {
        index(within(what, 0, 5));
        return new int[] {boxes.size(), crates.size(), taken.size(), inside.size(), shocks, told}[what];
    }
}
