import java.util.function.IntConsumer;

/**
 * Each range and each greatest number that the document names: the numbers just inside it are
 * taken, those just outside it are refused. Each try is made on an object of its own.
 */
public final class EdgesTest {
    public static void main(String[] args) {
        promise2Object();
        promise3Weak();
        promise4Foam();
        promise5Point();
        promise6And7ValueAndThickness();
        promise8Pack();
        promise9And10SizeAndAt();
        promise11To13Crates();
        promise14And15SplitAndLag();
        promise16To18Climate();
        promise19And20Shocks();
        promise21And22Route();
        promise23Count();
        Check.end("EdgesTest");
    }

    private static void range(
            String name, int least, int most, Class<? extends RuntimeException> due, IntConsumer call) {
        for (int inside : new int[] {least, most}) {
            Check.yes(name + " " + inside + " is taken", Check.answer(() -> {
                call.accept(inside);
                return 0;
            }).equals("0"));
        }
        for (int outside : new int[] {least - 1, most + 1, Integer.MIN_VALUE, Integer.MAX_VALUE}) {
            Check.refused(name + " " + outside, due, () -> call.accept(outside));
        }
    }

    /** Objects of sizes 2, 3 and 4. */
    private static CrateCushions withObjects(int count) {
        CrateCushions x = new CrateCushions();
        for (int n = 0; n < count; n++) {
            x.object(2, 3, 4, 5);
        }
        return x;
    }

    private static CrateCushions packed() {
        CrateCushions x = withObjects(3);
        x.pack(7, 1);
        return x;
    }

    /** Rows of thickness 10, 20 .. of a foam, each with points from stress 10 on. */
    private static CrateCushions withRows(int kind, int rows, int points) {
        CrateCushions x = new CrateCushions();
        for (int row = 0; row < rows; row++) {
            x.foam(kind, 10 * row + 10);
            for (int point = 0; point < points; point++) {
                x.point(kind, row, 10 * point + 10, 100);
            }
        }
        return x;
    }

    private static CrateCushions withCrates(int count) {
        CrateCushions x = new CrateCushions();
        for (int n = 0; n < count; n++) {
            x.crate(30, 30, 30);
        }
        return x;
    }

    private static CrateCushions withHours(int count) {
        CrateCushions x = new CrateCushions();
        for (int n = 0; n < count; n++) {
            x.climate(0);
        }
        return x;
    }

    private static CrateCushions withRoute(int legs) {
        CrateCushions x = new CrateCushions();
        x.route(1, legs);
        return x;
    }

    private static void promise2Object() {
        range("object: a", 1, 200, Check.ARGUMENT, n -> withObjects(0).object(n, 1, 1, 1));
        range("object: b", 1, 200, Check.ARGUMENT, n -> withObjects(0).object(1, n, 1, 1));
        range("object: c", 1, 200, Check.ARGUMENT, n -> withObjects(0).object(1, 1, n, 1));
        range("object: grams", 1, 100000, Check.ARGUMENT, n -> withObjects(0).object(1, 1, 1, n));
        Check.same("the sixth object", withObjects(5).object(1, 1, 1, 1), 5);
        Check.refused("the seventh object", Check.STATE, () -> withObjects(6).object(1, 1, 1, 1));
        Check.refused("the seventh and wrong object", Check.STATE, () -> withObjects(6).object(0, 1, 1, 1));
    }

    private static void promise3Weak() {
        for (int count = 1; count <= 6; count++) {
            int most = count;
            range("weak: object of " + count, 0, most - 1, Check.INDEX, n -> withObjects(most).weak(n, 0, true));
        }
        range("weak: side", 0, 5, Check.INDEX, n -> withObjects(1).weak(0, n, true));
        Check.refused("weak: no object yet", Check.INDEX, () -> withObjects(0).weak(0, 0, true));
    }

    private static void promise4Foam() {
        range("foam: kind", 0, 3, Check.INDEX, n -> withRows(0, 0, 0).foam(n, 1));
        range("foam: first thickness", 1, 500, Check.ARGUMENT, n -> withRows(1, 0, 0).foam(1, n));
        range("foam: thickness behind 70", 71, 500, Check.ARGUMENT, n -> withRows(1, 7, 0).foam(1, n));
        range("foam: thickness of another kind", 1, 500, Check.ARGUMENT, n -> withRows(1, 8, 0).foam(2, n));
        Check.same("the eighth row", withRows(3, 7, 0).foam(3, 100), 7);
        Check.refused("the ninth row", Check.STATE, () -> withRows(3, 8, 0).foam(3, 100));
        Check.refused("the ninth and wrong row", Check.STATE, () -> withRows(3, 8, 0).foam(3, 501));
        Check.refused("the ninth row, not above the last", Check.STATE, () -> withRows(3, 8, 0).foam(3, 80));
    }

    private static void promise5Point() {
        range("point: kind", 0, 0, Check.INDEX, n -> withRows(0, 1, 0).point(n, 0, 1, 1));
        range("point: kind, from the end", 3, 3, Check.INDEX, n -> withRows(3, 1, 0).point(n, 0, 1, 1));
        for (int rows = 1; rows <= 8; rows++) {
            int most = rows;
            range("point: row of " + rows, 0, most - 1, Check.INDEX, n -> withRows(2, most, 0).point(2, n, 1, 1));
        }
        range("point: first stress", 0, 10000, Check.ARGUMENT, n -> withRows(2, 1, 0).point(2, 0, n, 1));
        range("point: stress behind 50", 51, 10000, Check.ARGUMENT, n -> withRows(2, 1, 5).point(2, 0, n, 1));
        range("point: value", 1, 1000, Check.ARGUMENT, n -> withRows(2, 1, 5).point(2, 0, 51, n));
        Check.same("the sixth point", withRows(3, 2, 5).point(3, 1, 60, 1), 6);
        Check.refused("the seventh point", Check.STATE, () -> withRows(3, 2, 6).point(3, 1, 70, 1));
        Check.refused("the seventh point, stress", Check.STATE, () -> withRows(3, 2, 6).point(3, 1, 10001, 1));
        Check.refused("the seventh point, value", Check.STATE, () -> withRows(3, 2, 6).point(3, 1, 70, 0));
        Check.refused("the seventh point, not above", Check.STATE, () -> withRows(3, 2, 6).point(3, 1, 60, 1));
        Check.refused("no row, and all is wrong", Check.INDEX, () -> withRows(3, 2, 6).point(3, 2, -1, 0));
    }

    private static void promise6And7ValueAndThickness() {
        range("value: kind", 0, 0, Check.INDEX, n -> withRows(0, 1, 1).value(n, 0, 10));
        range("value: kind, from the end", 3, 3, Check.INDEX, n -> withRows(3, 1, 1).value(n, 0, 10));
        for (int rows = 1; rows <= 8; rows++) {
            int most = rows;
            range("value: row of " + rows, 0, most - 1, Check.INDEX, n -> withRows(2, most, 1).value(2, n, 10));
        }
        range("thickness: kind", 0, 3, Check.INDEX, n -> withRows(1, 2, 2).thickness(n, 10, 100));
        // Any stress and any limit may be asked for; where there is no value, the answer is NONE.
        for (int n : new int[] {-1, 10001, Integer.MIN_VALUE, Integer.MAX_VALUE}) {
            Check.same("value: stress " + n, withRows(1, 2, 2).value(1, 0, n), -1);
            Check.same("thickness: stress " + n, withRows(1, 2, 2).thickness(1, n, 100), -1);
        }
        for (int n : new int[] {0, -1, Integer.MIN_VALUE}) {
            Check.same("thickness: limit " + n, withRows(1, 2, 2).thickness(1, 10, n), -1);
        }
    }

    private static void promise8Pack() {
        range("pack: gap", 0, 20, Check.ARGUMENT, n -> withObjects(2).pack(3, n));
        for (int count = 1; count <= 6; count++) {
            int made = count;
            Check.same("pack: the last of " + count, withObjects(made).pack(1 << made - 1, 0), 1);
            Check.same("pack: all " + count, withObjects(made).pack((1 << made) - 1, 0), count);
            Check.refused("pack: the next of " + count, Check.INDEX, () -> withObjects(made).pack(1 << made, 0));
            Check.refused("pack: all and the next", Check.INDEX, () -> withObjects(made).pack((2 << made) - 1, 0));
        }
        for (int bit = 6; bit < 32; bit++) {
            int set = 1 << bit;
            Check.refused("pack: bit " + bit, Check.INDEX, () -> withObjects(6).pack(set, 0));
            Check.refused("pack: bit " + bit + " and 0", Check.INDEX, () -> withObjects(6).pack(set | 1, 21));
        }
        Check.refused("pack: the empty set", Check.ARGUMENT, () -> withObjects(6).pack(0, 0));
        Check.refused("pack: the empty set of nothing", Check.ARGUMENT, () -> withObjects(0).pack(0, 0));
    }

    private static void promise9And10SizeAndAt() {
        range("size: axis", 0, 2, Check.INDEX, n -> packed().size(n));
        Check.refused("size: axis, nothing packed", Check.INDEX, () -> withObjects(3).size(3));
        Check.refused("size: nothing packed", Check.STATE, () -> withObjects(3).size(2));
        range("at: object", 0, 2, Check.INDEX, n -> packed().at(n, 0));
        range("at: what", -1, 0, Check.INDEX, n -> packed().at(2, n));
        Check.refused("at: object, nothing packed", Check.INDEX, () -> withObjects(3).at(3, 0));
        Check.refused("at: what, nothing packed", Check.INDEX, () -> withObjects(3).at(0, 1));
        Check.refused("at: nothing packed", Check.STATE, () -> withObjects(3).at(2, 0));
    }

    private static void promise11To13Crates() {
        range("crate: length", 1, 2000, Check.ARGUMENT, n -> withCrates(0).crate(n, 1, 1));
        range("crate: width", 1, 2000, Check.ARGUMENT, n -> withCrates(0).crate(1, n, 1));
        range("crate: height", 1, 2000, Check.ARGUMENT, n -> withCrates(0).crate(1, 1, n));
        Check.same("the tenth crate", withCrates(9).crate(1, 1, 1), 9);
        Check.refused("the eleventh crate", Check.STATE, () -> withCrates(10).crate(1, 1, 1));
        Check.refused("the eleventh and wrong crate", Check.STATE, () -> withCrates(10).crate(1, 2001, 1));
        Check.refused("match: nothing packed", Check.STATE, () -> withCrates(10).match());
        Check.same("match: no crates", packed().match(), -1);
        for (int count = 1; count <= 10; count++) {
            int most = count;
            range("free: crate of " + count, 0, most - 1, Check.INDEX, n -> withCrates(most).free(n));
        }
        Check.refused("free: no crates", Check.INDEX, () -> withCrates(0).free(0));
    }

    private static void promise14And15SplitAndLag() {
        Check.same("split(1) of 5 grams each", withObjects(2).split(1), -1);
        Check.same("split of the greatest int", withObjects(2).split(Integer.MAX_VALUE), 1);
        for (int n : new int[] {0, -1, Integer.MIN_VALUE}) {
            Check.refused("split(" + n + ")", Check.ARGUMENT, () -> withObjects(2).split(n));
            Check.refused("split(" + n + ") of nothing", Check.ARGUMENT, () -> withObjects(0).split(n));
        }
        range("lag", 1, 100, Check.ARGUMENT, n -> withHours(0).lag(n));
    }

    private static void promise16To18Climate() {
        range("climate: degrees", -60, 60, Check.ARGUMENT, n -> withHours(3).climate(n));
        range("climate: degrees of the 200th hour", -60, 60, Check.ARGUMENT, n -> withHours(199).climate(n));
        for (int n : new int[] {-61, -60, 0, 60, 61}) {
            Check.refused("climate: the 201st hour, " + n, Check.STATE, () -> withHours(200).climate(n));
        }
        for (int count : new int[] {1, 2, 199, 200}) {
            range("inside: hour of " + count, 0, count - 1, Check.INDEX, n -> withHours(count).inside(n));
        }
        Check.refused("inside: no hours", Check.INDEX, () -> withHours(0).inside(0));
        for (int n : new int[] {Integer.MIN_VALUE, -1, 0, Integer.MAX_VALUE}) {
            Check.same("steady: low is high, " + n, withHours(0).steady(n, n), 0);
        }
        for (int n : new int[] {Integer.MIN_VALUE, -1, 0, Integer.MAX_VALUE - 1}) {
            Check.refused("steady: low is one above " + n, Check.ARGUMENT, () -> withHours(1).steady(n + 1, n));
            Check.refused("the same without hours", Check.ARGUMENT, () -> withHours(0).steady(n + 1, n));
        }
    }

    private static void promise19And20Shocks() {
        range("limit: peak", 1, 10000, Check.ARGUMENT, n -> new CrateCushions().limit(n, 1));
        range("limit: length", 1, 10000, Check.ARGUMENT, n -> new CrateCushions().limit(1, n));
        range("shock: g", 0, 10000, Check.ARGUMENT, n -> new CrateCushions().shock(n, 0));
        range("shock: milliseconds", 0, 10000, Check.ARGUMENT, n -> new CrateCushions().shock(0, n));
    }

    private static void promise21And22Route() {
        range("route: seed", 0, 65536, Check.ARGUMENT, n -> new CrateCushions().route(n, 1));
        range("route: legs", 1, 50, Check.ARGUMENT, n -> new CrateCushions().route(0, n));
        for (int legs : new int[] {1, 2, 49, 50}) {
            range("drop: leg of " + legs, 0, legs - 1, Check.INDEX, n -> withRoute(legs).drop(n));
        }
        Check.refused("drop: no route", Check.INDEX, () -> new CrateCushions().drop(0));
    }

    private static void promise23Count() {
        range("count: what", 0, 5, Check.INDEX, n -> new CrateCushions().count(n));
    }
}
