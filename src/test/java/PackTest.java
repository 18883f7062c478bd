/** Promises 8 (pack), 9 (size) and 10 (at). */
public final class PackTest {
    private static final int[][] WAYS = {{0, 1, 2}, {1, 0, 2}, {0, 2, 1}, {2, 0, 1}, {1, 2, 0}, {2, 1, 0}};

    public static void main(String[] args) {
        promise8EachWay();
        promise8LeastProduct();
        promise8LowerWayOfEqualOnes();
        promise8FirstObjectThatDiffers();
        promise8LeastAndGreatestCrate();
        promise8LastSideThatIsNotWeak();
        promise8NoneChangesNothing();
        promise8Refusals();
        promise9Size();
        promise10At();
        promise10KeepsWhatWasPacked();
        promise10Refusals();
        Check.end("PackTest");
    }

    private static void promise8EachWay() {
        for (int way = 0; way < 6; way++) {
            CrateCushions x = new CrateCushions();
            int[] sizes = {5, 70, 200};
            x.object(sizes[0], sizes[1], sizes[2], 1);
            for (int side = 0; side < 6; side++) {
                x.weak(0, side, side != way);
            }
            Check.same("pack(1, 3)", x.pack(1, 3), 1);
            Check.same("the only way", x.at(0, -1), way);
            for (int axis = 0; axis < 3; axis++) {
                Check.same("size " + axis + " of way " + way, x.size(axis), sizes[WAYS[way][axis]] + 6);
            }
        }
    }

    private static void promise8LeastProduct() {
        CrateCushions x = new CrateCushions();
        x.object(10, 20, 30, 500);
        x.object(5, 5, 40, 900);
        Check.same("pack(3, 2)", x.pack(3, 2), 2);
        Check.same("length", x.size(0), 31);
        Check.same("width", x.size(1), 14);
        Check.same("height", x.size(2), 44);
        Check.same("way of 0", x.at(0, -1), 1);
        Check.same("way of 1", x.at(1, -1), 0);
        // Gaps count in the product, so wide ones may ask for other ways than narrow ones.
        for (int gap = 0; gap <= 20; gap++) {
            for (int c = 1; c <= 60; c++) {
                CrateCushions y = new CrateCushions();
                y.object(10, 20, c, 1);
                y.object(5, 5, 40, 1);
                y.pack(3, gap);
                Check.same("product with gap " + gap + ", size " + c,
                        (long) y.size(0) * y.size(1) * y.size(2), leastOf(10, 20, c, gap));
            }
        }
    }

    /** The least product for a box of three sizes beside the 5, 5, 40 rod, by trying all 36. */
    private static long leastOf(int a, int b, int c, int gap) {
        int[] box = {a, b, c};
        int[] rod = {5, 5, 40};
        long least = Long.MAX_VALUE;
        for (int[] v : WAYS) {
            for (int[] w : WAYS) {
                long length = box[v[0]] + rod[w[0]] + 3 * gap;
                long width = Math.max(box[v[1]], rod[w[1]]) + 2 * gap;
                long height = Math.max(box[v[2]], rod[w[2]]) + 2 * gap;
                least = Math.min(least, length * width * height);
            }
        }
        return least;
    }

    private static void promise8LowerWayOfEqualOnes() {
        CrateCushions x = new CrateCushions();
        x.object(7, 8, 9, 1);
        x.pack(1, 0);
        Check.same("alone without a gap each way is equal", x.at(0, -1), 0);
        x.weak(0, 0, true);
        x.weak(0, 1, true);
        x.pack(1, 0);
        Check.same("the lowest that may be", x.at(0, -1), 2);
        CrateCushions y = new CrateCushions();
        y.object(1, 1, 2, 1);
        y.object(2, 1, 1, 1);
        y.pack(3, 0);
        Check.same("the first object has the say", y.at(0, -1), 0);
        Check.same("then the second", y.at(1, -1), 4);
        CrateCushions z = new CrateCushions();
        for (int n = 0; n < 6; n++) {
            z.object(4, 4, 4, 1);
            z.weak(n, n % 3, true);
        }
        Check.same("six cubes", z.pack(63, 1), 6);
        for (int n = 0; n < 6; n++) {
            Check.same("cube " + n, z.at(n, -1), n % 3 == 0 ? 1 : 0);
        }
        Check.same("their length", z.size(0), 31);
    }

    /** Objects, four numbers each: three sizes, and the weak sides by bits. */
    private static CrateCushions ofSizes(int... numbers) {
        CrateCushions x = new CrateCushions();
        for (int n = 0; n < numbers.length; n += 4) {
            int object = x.object(numbers[n], numbers[n + 1], numbers[n + 2], 1);
            for (int side = 0; side < 6; side++) {
                x.weak(object, side, (numbers[n + 3] >> side & 1) == 1);
            }
        }
        return x;
    }

    private static void crateIs(CrateCushions x, int[] sizes, int[] ways) {
        for (int axis = 0; axis < 3; axis++) {
            Check.same("size(" + axis + ")", x.size(axis), sizes[axis]);
        }
        for (int object = 0; object < ways.length; object++) {
            Check.same("at(" + object + ", -1)", x.at(object, -1), ways[object]);
        }
    }

    /** Equal products where the later objects, or the ways' sum, would ask for other ways. */
    private static void promise8FirstObjectThatDiffers() {
        CrateCushions x = ofSizes(12, 6, 4, 0b111010, 2, 9, 6, 0b101000);
        x.pack(3, 1);
        crateIs(x, new int[] {24, 8, 6}, new int[] {0, 4});
        CrateCushions y = ofSizes(11, 8, 12, 0, 8, 12, 10, 0b101101);
        y.pack(3, 1);
        crateIs(y, new int[] {27, 13, 10}, new int[] {3, 4});
        CrateCushions z = ofSizes(8, 3, 7, 0b100011, 2, 10, 8, 0b11, 3, 1, 9, 0b100000);
        z.pack(7, 0);
        crateIs(z, new int[] {16, 10, 3}, new int[] {3, 5, 4});
    }

    private static void promise8LeastAndGreatestCrate() {
        CrateCushions x = ofSizes(1, 1, 1, 0);
        Check.same("the least", x.pack(1, 0), 1);
        crateIs(x, new int[] {1, 1, 1}, new int[] {0});
        CrateCushions y = new CrateCushions();
        for (int n = 0; n < 6; n++) {
            y.object(200, 200, 200, 100000);
        }
        Check.same("the greatest", y.pack(63, 20), 6);
        crateIs(y, new int[] {6 * 200 + 7 * 20, 240, 240}, new int[] {0, 0, 0, 0, 0, 0});
        Check.same("the last of them", y.at(5, 0), 5 * 220 + 20);
    }

    private static void promise8LastSideThatIsNotWeak() {
        for (int object = 0; object < 6; object++) {
            CrateCushions x = ofSizes(1, 2, 3, 0, 1, 2, 3, 0, 1, 2, 3, 0, 1, 2, 3, 0, 1, 2, 3, 0, 1, 2, 3, 0);
            for (int side = 0; side < 5; side++) {
                x.weak(object, side, true);
            }
            Check.same("one side is left", x.pack(63, 0), 6);
            Check.same("on it", x.at(object, -1), 5);
            x.weak(object, 5, true);
            Check.same("none is left", x.pack(63, 0), -1);
            Check.same("alone", x.pack(1 << object, 0), -1);
            Check.same("the others", x.pack(63 ^ 1 << object, 0), 5);
            Check.same("it is not among them", x.at(object, -1), -1);
        }
    }

    private static void promise8NoneChangesNothing() {
        CrateCushions x = new CrateCushions();
        x.object(3, 4, 5, 1);
        x.object(6, 7, 8, 1);
        for (int side = 0; side < 6; side++) {
            x.weak(1, side, true);
        }
        Check.same("one can't stand", x.pack(3, 0), -1);
        Check.refused("nothing was packed", Check.STATE, () -> x.size(0));
        Check.same("the other can", x.pack(1, 2), 1);
        int length = x.size(0);
        Check.same("NONE", x.pack(2, 9), -1);
        Check.same("NONE, both", x.pack(3, 9), -1);
        Check.same("the latest crate stays", x.size(0), length);
        Check.same("its object, too", x.at(0, 0), 2);
        Check.same("the other is not in it", x.at(1, -1), -1);
        Check.refused("the gap comes first", Check.ARGUMENT, () -> x.pack(2, 21));
        CrateCushions y = new CrateCushions();
        y.object(3, 4, 5, 1);
        y.object(6, 7, 8, 1);
        for (int side = 0; side < 6; side++) {
            y.weak(0, side, true);
        }
        Check.same("the first can't stand", y.pack(3, 0), -1);
        Check.same("without it", y.pack(2, 0), 1);
    }

    private static void promise8Refusals() {
        CrateCushions x = new CrateCushions();
        Check.refused("empty, no objects", Check.ARGUMENT, () -> x.pack(0, 0));
        Check.refused("no object 0", Check.INDEX, () -> x.pack(1, 0));
        x.object(1, 1, 1, 1);
        x.object(1, 1, 1, 1);
        int[] sets = {4, 5, 64, 128, 1 << 30, -1, -4, Integer.MIN_VALUE, Integer.MIN_VALUE + 1};
        for (int set : sets) {
            Check.refused("set " + set, Check.INDEX, () -> x.pack(set, 0));
            Check.refused("set " + set + ", gap 21", Check.INDEX, () -> x.pack(set, 21));
        }
        int[] gaps = {-1, 21, Integer.MIN_VALUE, Integer.MAX_VALUE};
        for (int gap : gaps) {
            Check.refused("gap " + gap, Check.ARGUMENT, () -> x.pack(3, gap));
        }
        Check.refused("empty", Check.ARGUMENT, () -> x.pack(0, 0));
        Check.refused("nothing was packed", Check.STATE, () -> x.at(0, 0));
        Check.same("gap 0", x.pack(3, 0), 2);
        Check.same("gap 20", x.pack(3, 20), 2);
        for (int n = 2; n < 6; n++) {
            x.object(200, 200, 200, 1);
        }
        Check.refused("no seventh", Check.INDEX, () -> x.pack(64, 0));
        Check.same("all six", x.pack(63, 20), 6);
        Check.same("their length", x.size(0), 4 * 200 + 2 + 7 * 20);
    }

    private static void promise9Size() {
        CrateCushions x = new CrateCushions();
        int[] axes = {-1, 3, Integer.MIN_VALUE, Integer.MAX_VALUE};
        for (int axis : axes) {
            Check.refused("axis " + axis + ", nothing packed", Check.INDEX, () -> x.size(axis));
        }
        Check.refused("nothing packed", Check.STATE, () -> x.size(2));
        x.object(9, 9, 9, 1);
        x.object(2, 2, 2, 1);
        x.pack(1, 1);
        Check.same("size(0)", x.size(0), 11);
        x.pack(2, 3);
        for (int axis = 0; axis < 3; axis++) {
            Check.same("the latest, axis " + axis, x.size(axis), 8);
        }
        for (int axis : axes) {
            Check.refused("axis " + axis, Check.INDEX, () -> x.size(axis));
        }
    }

    private static void promise10At() {
        CrateCushions x = new CrateCushions();
        for (int n = 0; n < 6; n++) {
            x.object(n + 1, n + 1, n + 1, 1);
        }
        Check.same("1, 3 and 5", x.pack(42, 4), 3);
        int[] starts = {-1, 4, -1, 10, -1, 18};
        for (int n = 0; n < 6; n++) {
            Check.same("start of " + n, x.at(n, 0), starts[n]);
            Check.same("way of " + n, x.at(n, -1), n % 2 == 1 ? 0 : -1);
        }
        Check.same("length", x.size(0), 28);
        x.pack(5, 0);
        Check.same("the first begins at once", x.at(0, 0), 0);
        Check.same("the next behind it", x.at(2, 0), 1);
        Check.same("that of before is gone", x.at(1, 0), -1);
        Check.same("and its way", x.at(1, -1), -1);
        CrateCushions y = new CrateCushions();
        y.object(10, 20, 30, 1);
        y.object(5, 5, 40, 1);
        y.object(6, 6, 6, 1);
        y.pack(7, 2);
        Check.same("the first", y.at(0, 0), 2);
        Check.same("behind 20 and a gap", y.at(1, 0), 24);
        Check.same("behind 5 and a gap", y.at(2, 0), 31);
    }

    private static void promise10KeepsWhatWasPacked() {
        CrateCushions x = new CrateCushions();
        x.object(1, 2, 3, 1);
        x.pack(1, 1);
        int way = x.at(0, -1);
        x.weak(0, way, true);
        Check.same("a side that is weak since", x.at(0, -1), way);
        x.object(4, 4, 4, 1);
        Check.same("an object that came since", x.at(1, -1), -1);
        Check.same("its start", x.at(1, 0), -1);
    }

    private static void promise10Refusals() {
        CrateCushions x = new CrateCushions();
        Check.refused("no object", Check.INDEX, () -> x.at(0, 0));
        x.object(1, 1, 1, 1);
        Check.refused("nothing packed", Check.STATE, () -> x.at(0, 0));
        Check.refused("nothing packed, way", Check.STATE, () -> x.at(0, -1));
        Check.refused("what, nothing packed", Check.INDEX, () -> x.at(0, 1));
        Check.refused("object, nothing packed", Check.INDEX, () -> x.at(1, 0));
        x.pack(1, 0);
        int[] objects = {-1, 1, 5, 6, Integer.MIN_VALUE, Integer.MAX_VALUE};
        for (int object : objects) {
            Check.refused("object " + object, Check.INDEX, () -> x.at(object, 0));
        }
        int[] whats = {-2, 1, 2, Integer.MIN_VALUE, Integer.MAX_VALUE};
        for (int what : whats) {
            Check.refused("what " + what, Check.INDEX, () -> x.at(0, what));
        }
    }
}
