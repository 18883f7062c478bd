/** Promises 2 (object), 3 (weak) and 14 (split). */
public final class ObjectsTest {
    public static void main(String[] args) {
        promise2Object();
        promise2Refusals();
        promise3Weak();
        promise3Refusals();
        promise14Split();
        promise14NeedsMoreThanGreed();
        promise14Edges();
        Check.end("ObjectsTest");
    }

    private static void promise2Object() {
        CrateCushions x = new CrateCushions();
        for (int n = 0; n < 6; n++) {
            Check.same("object " + n, x.object(1, 200, n + 1, n % 2 == 0 ? 1 : 100000), n);
            Check.same("count(0)", x.count(0), n + 1);
        }
        Check.refused("a seventh object", Check.STATE, () -> x.object(1, 1, 1, 1));
        Check.refused("a seventh and wrong object", Check.STATE, () -> x.object(0, 1, 1, 1));
        Check.same("count(0)", x.count(0), 6);
    }

    private static void promise2Refusals() {
        CrateCushions x = new CrateCushions();
        int[] wrong = {0, 201, -1, Integer.MIN_VALUE, Integer.MAX_VALUE};
        for (int size : wrong) {
            Check.refused("a = " + size, Check.ARGUMENT, () -> x.object(size, 1, 1, 1));
            Check.refused("b = " + size, Check.ARGUMENT, () -> x.object(1, size, 1, 1));
            Check.refused("c = " + size, Check.ARGUMENT, () -> x.object(1, 1, size, 1));
        }
        Check.refused("0 grams", Check.ARGUMENT, () -> x.object(1, 1, 1, 0));
        Check.refused("100001 grams", Check.ARGUMENT, () -> x.object(1, 1, 1, 100001));
        Check.refused("-1 grams", Check.ARGUMENT, () -> x.object(1, 1, 1, -1));
        Check.same("count(0) after refusals", x.count(0), 0);
        Check.same("the first object", x.object(200, 200, 200, 100000), 0);
    }

    private static void promise3Weak() {
        CrateCushions x = new CrateCushions();
        x.object(1, 2, 3, 4);
        x.object(1, 2, 3, 4);
        for (int side = 0; side < 6; side++) {
            Check.no("not weak, again", x.weak(1, side, false));
            Check.yes("weak", x.weak(1, side, true));
            Check.no("weak, again", x.weak(1, side, true));
            Check.no("the other object is not", x.weak(0, side, false));
        }
        Check.same("no side left", x.pack(2, 0), -1);
        Check.yes("not weak any more", x.weak(1, 3, false));
        Check.no("not weak any more, again", x.weak(1, 3, false));
        Check.same("stands again", x.pack(2, 0), 1);
        Check.same("on that side", x.at(1, -1), 3);
    }

    private static void promise3Refusals() {
        CrateCushions x = new CrateCushions();
        x.object(1, 2, 3, 4);
        int[] objects = {-1, 1, 6, Integer.MIN_VALUE, Integer.MAX_VALUE};
        for (int object : objects) {
            Check.refused("object " + object, Check.INDEX, () -> x.weak(object, 0, true));
        }
        int[] sides = {-1, 6, 32, Integer.MIN_VALUE, Integer.MAX_VALUE};
        for (int side : sides) {
            Check.refused("side " + side, Check.INDEX, () -> x.weak(0, side, true));
        }
        for (int side = 0; side < 6; side++) {
            Check.no("nothing became weak", x.weak(0, side, false));
        }
    }

    private static CrateCushions ofGrams(int... grams) {
        CrateCushions x = new CrateCushions();
        for (int g : grams) {
            x.object(1, 1, 1, g);
        }
        return x;
    }

    private static void promise14Split() {
        CrateCushions x = ofGrams(500, 900, 300);
        Check.same("split(1700)", x.split(1700), 1);
        Check.same("split(1699)", x.split(1699), 2);
        Check.same("split(900)", x.split(900), 2);
        Check.same("split(899)", x.split(899), -1);
        Check.same("split(1)", x.split(1), -1);
        Check.same("split of the greatest int", x.split(Integer.MAX_VALUE), 1);
    }

    private static void promise14NeedsMoreThanGreed() {
        // The heaviest first, each into the first crate that has room, takes three crates here.
        Check.same("4 3 3 | 4 3 3", ofGrams(4, 3, 3, 4, 3, 3).split(10), 2);
        // And so does filling crates by numbers here.
        CrateCushions x = ofGrams(6, 5, 4, 3, 3, 3);
        Check.same("6 3 3 | 5 4 3", x.split(12), 2);
        Check.same("one more is needed", x.split(11), 3);
        CrateCushions y = ofGrams(2, 10, 6, 13, 2, 1);
        Check.same("13 2 2 | 10 6 1, both full", y.split(17), 2);
        Check.same("a gram less", y.split(16), 3);
        // Only one pairing of these fills three crates of 10; each order of them must find it.
        int[][] orders = {{9, 1, 8, 2, 7, 3}, {1, 2, 3, 7, 8, 9}, {3, 8, 1, 7, 2, 9}, {7, 2, 9, 3, 1, 8}};
        for (int[] order : orders) {
            CrateCushions z = ofGrams(order);
            Check.same("9 1 | 8 2 | 7 3", z.split(10), 3);
            Check.same("9 | 8 1 | 7 2 | 3", z.split(9), 4);
        }
    }

    private static void promise14Edges() {
        CrateCushions x = new CrateCushions();
        Check.same("nothing to part", x.split(1), 0);
        Check.refused("split(0)", Check.ARGUMENT, () -> x.split(0));
        Check.refused("split(-1)", Check.ARGUMENT, () -> x.split(-1));
        Check.refused("split of the least int", Check.ARGUMENT, () -> x.split(Integer.MIN_VALUE));
        for (int n = 0; n < 6; n++) {
            x.object(1, 1, 1, 100000);
        }
        Check.same("each its own", x.split(100000), 6);
        Check.same("by twos, not quite", x.split(199999), 6);
        Check.same("by twos", x.split(200000), 3);
        Check.same("by fours", x.split(400000), 2);
        Check.same("together", x.split(600000), 1);
        Check.same("asked again", x.split(100000), 6);
        Check.same("one too heavy", x.split(99999), -1);
        CrateCushions y = ofGrams(9, 2);
        Check.same("the first is too heavy", y.split(8), -1);
        Check.same("it has room just so", y.split(9), 2);
    }
}
