/** Promises 11 (crate), 12 (match), 13 (free) and 23 (count). */
public final class StockTest {
    public static void main(String[] args) {
        promise11Crate();
        promise11Refusals();
        promise12Match();
        promise12LeastProduct();
        promise12TenCrates();
        promise12RoomOnTheEdge();
        promise12GreatProducts();
        promise12LatestCrate();
        promise12GapsNeedRoom();
        promise13Free();
        promise23Count();
        Check.end("StockTest");
    }

    /** An object whose latest crate is 10 long, 20 wide and 30 high. */
    private static CrateCushions packed() {
        CrateCushions x = new CrateCushions();
        x.object(10, 20, 30, 1);
        x.pack(1, 0);
        return x;
    }

    private static void promise11Crate() {
        CrateCushions x = new CrateCushions();
        for (int n = 0; n < 10; n++) {
            Check.same("crate " + n, x.crate(n % 2 == 0 ? 1 : 2000, 1, 2000), n);
        }
        Check.refused("an eleventh", Check.STATE, () -> x.crate(1, 1, 1));
        Check.refused("an eleventh and wrong one", Check.STATE, () -> x.crate(0, 1, 1));
        Check.same("count(1)", x.count(1), 10);
    }

    private static void promise11Refusals() {
        CrateCushions x = new CrateCushions();
        int[] wrong = {0, -1, 2001, Integer.MIN_VALUE, Integer.MAX_VALUE};
        for (int size : wrong) {
            Check.refused("length " + size, Check.ARGUMENT, () -> x.crate(size, 1, 1));
            Check.refused("width " + size, Check.ARGUMENT, () -> x.crate(1, size, 1));
            Check.refused("height " + size, Check.ARGUMENT, () -> x.crate(1, 1, size));
        }
        Check.same("count(1)", x.count(1), 0);
        Check.same("the least", x.crate(1, 1, 1), 0);
        Check.same("the greatest", x.crate(2000, 2000, 2000), 1);
    }

    private static void promise12Match() {
        CrateCushions x = packed();
        Check.same("no crates", x.match(), -1);
        x.crate(100, 100, 100);
        x.crate(25, 12, 31);
        x.crate(31, 25, 12);
        x.crate(12, 25, 31);
        Check.same("the least product, turned, the lowest of equal ones", x.match(), 1);
        Check.same("the other of equal product", x.match(), 3);
        Check.same("then the large one", x.match(), 0);
        Check.same("the one on its side is too low", x.match(), -1);
        Check.same("count(2)", x.count(2), 3);
        CrateCushions y = new CrateCushions();
        y.crate(100, 100, 100);
        Check.refused("nothing packed", Check.STATE, () -> y.match());
        Check.same("count(2)", y.count(2), 0);
    }

    private static void promise12LeastProduct() {
        CrateCushions x = packed();
        x.crate(40, 40, 40);
        x.crate(10, 20, 319);
        x.crate(1000, 31, 31);
        x.crate(10, 1000, 30);
        x.crate(21, 1000, 30);
        int[] due = {1, 0, 3, 4, 2};
        for (int crate : due) {
            Check.same("by products, not by sums", x.match(), crate);
        }
        CrateCushions y = packed();
        y.crate(20, 20, 2000);
        y.crate(40, 40, 40);
        Check.same("height counts as much", y.match(), 1);
        Check.same("then the high one", y.match(), 0);
    }

    private static void promise12TenCrates() {
        CrateCushions x = packed();
        for (int n = 0; n < 10; n++) {
            x.crate(50 - n, 50, 50);
        }
        for (int n = 9; n >= 0; n--) {
            Check.same("the next least", x.match(), n);
            Check.same("count(2)", x.count(2), 10 - n);
        }
        Check.same("all are taken", x.match(), -1);
    }

    private static void promise12RoomOnTheEdge() {
        CrateCushions x = packed();
        x.crate(9, 2000, 2000);
        x.crate(2000, 9, 2000);
        x.crate(19, 19, 2000);
        x.crate(2000, 2000, 29);
        Check.same("none has room", x.match(), -1);
        x.crate(10, 20, 30);
        Check.same("just room", x.match(), 4);
        x.crate(20, 10, 30);
        Check.same("just room, turned", x.match(), 5);
    }

    private static void promise12GreatProducts() {
        // As ints, 2000 * 2000 * 2000 would be less than 1200 * 1200 * 1200.
        CrateCushions x = packed();
        x.crate(2000, 2000, 2000);
        x.crate(1200, 1200, 1200);
        x.crate(1600, 1600, 1600);
        Check.same("the least", x.match(), 1);
        Check.same("the next", x.match(), 2);
        Check.same("the greatest", x.match(), 0);
    }

    private static void promise12LatestCrate() {
        CrateCushions x = packed();
        x.object(11, 20, 30, 1);
        x.crate(10, 20, 30);
        x.crate(11, 20, 30);
        x.pack(2, 0);
        Check.same("only the other has room", x.match(), 1);
        Check.same("none is left", x.match(), -1);
        x.pack(1, 0);
        Check.same("the latest has room there", x.match(), 0);
        Check.same("what was taken stays so", x.match(), -1);
        x.free(1);
        Check.same("the greater one has room, too", x.match(), 1);
    }

    private static void promise12GapsNeedRoom() {
        CrateCushions x = new CrateCushions();
        x.object(10, 10, 10, 1);
        x.pack(1, 20);
        x.crate(49, 50, 50);
        x.crate(50, 49, 50);
        x.crate(50, 50, 49);
        Check.same("one short", x.match(), -1);
        x.crate(50, 50, 50);
        Check.same("just room", x.match(), 3);
    }

    private static void promise13Free() {
        CrateCushions x = packed();
        Check.refused("no crate", Check.INDEX, () -> x.free(0));
        x.crate(50, 50, 50);
        x.crate(60, 60, 60);
        Check.no("it was not taken", x.free(0));
        x.match();
        Check.no("the other was not", x.free(1));
        Check.yes("it was", x.free(0));
        Check.no("it is not any more", x.free(0));
        Check.same("it can be taken again", x.match(), 0);
        int[] wrong = {-1, 2, 10, Integer.MIN_VALUE, Integer.MAX_VALUE};
        for (int crate : wrong) {
            Check.refused("crate " + crate, Check.INDEX, () -> x.free(crate));
        }
        Check.same("count(2)", x.count(2), 1);
    }

    private static void promise23Count() {
        CrateCushions x = packed();
        x.object(1, 1, 1, 1);
        x.crate(50, 50, 50);
        x.crate(50, 50, 50);
        x.crate(50, 50, 50);
        x.match();
        x.match();
        x.free(0);
        for (int n = 0; n < 4; n++) {
            x.climate(n);
        }
        x.limit(50, 50);
        for (int n = 0; n < 6; n++) {
            x.shock(46 + n, n < 5 ? 51 : 0);
            x.shock(10, 51);
        }
        int[] due = {2, 3, 1, 4, 12, 6};
        for (int what = 0; what <= 5; what++) {
            Check.same("count(" + what + ")", x.count(what), due[what]);
        }
        int[] wrong = {-1, 6, Integer.MIN_VALUE, Integer.MAX_VALUE};
        for (int what : wrong) {
            Check.refused("count(" + what + ")", Check.INDEX, () -> x.count(what));
        }
    }
}
