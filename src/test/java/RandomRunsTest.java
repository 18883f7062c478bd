import java.util.Random;
import java.util.function.IntSupplier;

/**
 * All promises together: runs of up to 512 calls by fixed seeds, wrong ones among them, each
 * answer compared with the model's. Since questions are asked all along, a refused call that
 * changes something shows sooner or later.
 */
public final class RandomRunsTest {
    private static final int RUNS = 600;
    private static final int CALLS = 512;
    private static final int[] ODD = {Integer.MIN_VALUE, -2, -1, 0, 1, 7, 64, Integer.MAX_VALUE};

    private final Random random;
    private final CrateCushions x = new CrateCushions();
    private final Model model = new Model();
    private final int sizes;
    private final int oddity;
    private int packs = 0;

    private RandomRunsTest(int seed) {
        random = new Random(seed);
        // Small sizes make equal products common; large ones make them rare.
        sizes = new int[] {2, 4, 12, 60, 200}[seed % 5];
        oddity = seed % 3 == 0 ? 4 : 40;
    }

    public static void main(String[] args) {
        for (int seed = 0; seed < RUNS; seed++) {
            RandomRunsTest run = new RandomRunsTest(seed);
            for (int n = 0; n < CALLS; n++) {
                run.call(seed, n);
            }
        }
        Check.end("RandomRunsTest");
    }

    /** Mostly least .. most, now and then a number just outside or far away. */
    private int number(int least, int most) {
        if (random.nextInt(oddity) == 0) {
            int pick = random.nextInt(ODD.length + 2);
            return pick < ODD.length ? ODD[pick] : pick == ODD.length ? least - 1 : most + 1;
        }
        return least + random.nextInt(most - least + 1);
    }

    private void call(int seed, int n) {
        int pick = random.nextInt(23);
        if (pick == 6 && ++packs > 12) {
            // The model tries all ways of all objects; a dozen packs a run are enough of that.
            pick = 7;
        }
        if (pick < 6) {
            tables(seed, n, pick);
        } else if (pick < 14) {
            boxes(seed, n, pick);
        } else {
            travel(seed, n, pick);
        }
    }

    private void tables(int seed, int n, int pick) {
        int kind = number(0, 1);
        int row = number(0, 4);
        int stress = number(0, random.nextBoolean() ? 40 : 10000);
        int value = number(1, random.nextBoolean() ? 30 : 1000);
        int thickness = number(1, random.nextInt(4) == 0 ? 500 : 60);
        boolean on = random.nextInt(3) > 0;
        int object = number(0, 5);
        int side = number(0, 5);
        int a = number(1, sizes);
        int b = number(1, sizes);
        int c = number(1, sizes);
        int grams = number(1, sizes == 200 ? 100000 : 30);
        switch (pick) {
            case 0 -> both(seed, n, "object", () -> x.object(a, b, c, grams), () -> model.object(a, b, c, grams));
            case 1 -> both(seed, n, "weak", () -> bit(x.weak(object, side, on)), () -> bit(model.weak(object, side, on)));
            case 2 -> both(seed, n, "foam", () -> x.foam(kind, thickness), () -> model.foam(kind, thickness));
            case 3 -> both(seed, n, "point", () -> x.point(kind, row, stress, value),
                    () -> model.point(kind, row, stress, value));
            case 4 -> both(seed, n, "value", () -> x.value(kind, row, stress), () -> model.value(kind, row, stress));
            default -> both(seed, n, "thickness", () -> x.thickness(kind, stress, value),
                    () -> model.thickness(kind, stress, value));
        }
    }

    private void boxes(int seed, int n, int pick) {
        int set = random.nextInt(3) == 0 ? number(0, 63) : number(1, Math.max(1, (1 << model.count(0)) - 1));
        int gap = random.nextInt(3) == 0 ? 0 : number(0, 20);
        int axis = number(0, 2);
        int object = number(0, 5);
        int what = number(-1, 0);
        int most = Math.min(2000, 4 * sizes + 40);
        int length = number(1, most);
        int width = number(1, most);
        int height = number(1, random.nextInt(3) == 0 ? 2000 : most);
        int crate = number(0, 9);
        int grams = number(1, sizes == 200 ? 300000 : 90);
        switch (pick) {
            case 6 -> both(seed, n, "pack", () -> x.pack(set, gap), () -> model.pack(set, gap));
            case 7 -> both(seed, n, "size", () -> x.size(axis), () -> model.size(axis));
            case 8, 9 -> both(seed, n, "at", () -> x.at(object, what), () -> model.at(object, what));
            case 10 -> both(seed, n, "crate", () -> x.crate(length, width, height),
                    () -> model.crate(length, width, height));
            case 11 -> both(seed, n, "match", () -> x.match(), () -> model.match());
            case 12 -> both(seed, n, "free", () -> bit(x.free(crate)), () -> bit(model.free(crate)));
            default -> both(seed, n, "split", () -> x.split(grams), () -> model.split(grams));
        }
    }

    private void travel(int seed, int n, int pick) {
        int lag = number(1, 100);
        int degrees = number(-60, 60);
        int hour = number(0, 30);
        int low = number(-60000, 20000);
        int high = number(0, 60000);
        int peak = number(1, 100);
        int longest = number(1, 100);
        int g = number(0, 100);
        int milliseconds = number(0, 120);
        int start = number(0, 65536);
        int legs = number(1, 50);
        int leg = number(0, 49);
        int what = number(0, 5);
        switch (pick) {
            case 14 -> both(seed, n, "lag", () -> x.lag(lag), () -> model.lag(lag));
            case 15 -> both(seed, n, "climate", () -> x.climate(degrees), () -> model.climate(degrees));
            case 16 -> both(seed, n, "inside", () -> x.inside(hour), () -> model.inside(hour));
            case 17 -> both(seed, n, "steady", () -> x.steady(low, high), () -> model.steady(low, high));
            case 18 -> both(seed, n, "limit", () -> limited(peak, longest), () -> model.limit(peak, longest));
            case 19 -> both(seed, n, "shock", () -> bit(x.shock(g, milliseconds)),
                    () -> bit(model.shock(g, milliseconds)));
            case 20 -> both(seed, n, "route", () -> x.route(start, legs), () -> model.route(start, legs));
            case 21 -> both(seed, n, "drop", () -> x.drop(leg), () -> model.drop(leg));
            default -> both(seed, n, "count", () -> x.count(what), () -> model.count(what));
        }
    }

    private int limited(int peak, int longest) {
        x.limit(peak, longest);
        return 0;
    }

    private static int bit(boolean answer) {
        return answer ? 1 : 0;
    }

    private static void both(int seed, int n, String name, IntSupplier got, IntSupplier due) {
        String g = Check.answer(got);
        String d = Check.answer(due);
        Check.yes("seed " + seed + ", call " + n + ", " + name + " answered " + g + ", due is " + d + ": as due",
                g.equals(d));
    }
}
