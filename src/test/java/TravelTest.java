/** Promises 15 to 22: lag, climate, inside, steady, limit, shock, route, drop. */
public final class TravelTest {
    public static void main(String[] args) {
        promise15Lag();
        promise15ForLaterHours();
        promise16Climate();
        promise16SmallDifferences();
        promise16Limits();
        promise17Inside();
        promise18Steady();
        promise18Ends();
        promise19And20Shocks();
        promise19Halves();
        promise19LaterLimits();
        promise19And20Refusals();
        promise20UpToTheLastCall();
        promise21Route();
        promise21WrapsAround();
        promise21Refusals();
        promise22Drop();
        Check.end("TravelTest");
    }

    private static void promise15Lag() {
        CrateCushions x = new CrateCushions();
        Check.same("at first", x.lag(1), 4);
        Check.same("then", x.lag(100), 1);
        int[] wrong = {0, 101, -1, Integer.MIN_VALUE, Integer.MAX_VALUE};
        for (int hours : wrong) {
            Check.refused("lag " + hours, Check.ARGUMENT, () -> x.lag(hours));
        }
        Check.same("it stayed", x.lag(3), 100);
    }

    private static void promise16Climate() {
        CrateCushions x = new CrateCushions();
        Check.same("20000 to 0 by 4", x.climate(0), 15000);
        Check.same("15000 to 20000 by 4", x.climate(20), 16250);
        Check.same("rounded down below 0", x.climate(-60), -2813);
        x.lag(100);
        Check.same("62813 / 100, down", x.climate(60), -2185);
        Check.same("-2815 / 100, down", x.climate(-5), -2214);
        x.lag(1);
        Check.same("at once", x.climate(-60), -60000);
        Check.same("at once, too", x.climate(60), 60000);
        x.lag(7);
        Check.same("no difference", x.climate(60), 60000);
        x.lag(100);
        x.climate(59);
        Check.same("a small fall still falls", x.inside(8), 59990);
        CrateCushions y = new CrateCushions();
        y.lag(3);
        Check.same("a third of 20000 less, rounded down", y.climate(0), 13333);
    }

    private static void promise15ForLaterHours() {
        CrateCushions x = new CrateCushions();
        x.climate(0);
        Check.same("what it was", x.lag(1), 4);
        Check.same("the hour before stays", x.inside(0), 15000);
        Check.same("the hour behind has the new lag", x.climate(3), 3000);
        Check.same("the same lag again", x.lag(1), 1);
    }

    /** Rounded down, a third of 2 is nothing, but a third of 1 less is 1 less. */
    private static void promise16SmallDifferences() {
        CrateCushions x = new CrateCushions();
        x.lag(1);
        x.climate(0);
        x.lag(3);
        int[] rising = {333, 555, 703, 802, 868, 912, 941, 960, 973, 982, 988, 992, 994, 996, 997, 998, 998, 998};
        for (int due : rising) {
            Check.same("rising to 1000", x.climate(1), due);
        }
        CrateCushions y = new CrateCushions();
        y.lag(1);
        y.climate(2);
        y.lag(3);
        int[] falling = {1666, 1444, 1296, 1197, 1131, 1087, 1058, 1038, 1025, 1016, 1010, 1006, 1004, 1002, 1001,
            1000, 1000};
        for (int due : falling) {
            Check.same("falling to 1000", y.climate(1), due);
        }
    }

    private static void promise16Limits() {
        CrateCushions x = new CrateCushions();
        int[] wrong = {-61, 61, Integer.MIN_VALUE, Integer.MAX_VALUE};
        for (int degrees : wrong) {
            Check.refused("degrees " + degrees, Check.ARGUMENT, () -> x.climate(degrees));
        }
        Check.same("no hour came of it", x.count(3), 0);
        for (int hour = 0; hour < 200; hour++) {
            Check.same("hour " + hour, x.climate(20), 20000);
        }
        Check.refused("a 201st hour", Check.STATE, () -> x.climate(0));
        Check.refused("a 201st and wrong hour", Check.STATE, () -> x.climate(61));
        Check.same("count(3)", x.count(3), 200);
        Check.same("steady all the time", x.steady(20000, 20000), 200);
    }

    private static void promise17Inside() {
        CrateCushions x = new CrateCushions();
        x.lag(1);
        Check.refused("no hour yet", Check.INDEX, () -> x.inside(0));
        for (int hour = 0; hour < 5; hour++) {
            x.climate(hour * hour - 3);
        }
        for (int hour = 0; hour < 5; hour++) {
            Check.same("hour " + hour, x.inside(hour), 1000 * (hour * hour - 3));
        }
        int[] wrong = {-1, 5, 200, Integer.MIN_VALUE, Integer.MAX_VALUE};
        for (int hour : wrong) {
            Check.refused("hour " + hour, Check.INDEX, () -> x.inside(hour));
        }
    }

    private static void promise18Steady() {
        CrateCushions x = new CrateCushions();
        Check.same("no hours", x.steady(Integer.MIN_VALUE, Integer.MAX_VALUE), 0);
        x.lag(1);
        int[] degrees = {5, 6, 7, -1, 5, 5, 8, 6, 7, 9};
        for (int d : degrees) {
            x.climate(d);
        }
        Check.same("both ends with them", x.steady(5000, 8000), 5);
        Check.same("less above", x.steady(5000, 7999), 3);
        Check.same("less below", x.steady(5001, 8000), 3);
        Check.same("up to the end", x.steady(6000, 9000), 4);
        Check.same("one alone", x.steady(-1000, -1000), 1);
        Check.same("none", x.steady(0, 4999), 0);
        Check.same("all", x.steady(Integer.MIN_VALUE, Integer.MAX_VALUE), 10);
        Check.refused("low above high", Check.ARGUMENT, () -> x.steady(1, 0));
        Check.refused("far above", Check.ARGUMENT,
                () -> x.steady(Integer.MAX_VALUE, Integer.MIN_VALUE));
    }

    private static void promise18Ends() {
        CrateCushions x = new CrateCushions();
        x.lag(1);
        for (int d : new int[] {1, 1, 1, 0, 1, 1, 0, 1}) {
            x.climate(d);
        }
        Check.same("from the first hour", x.steady(1000, 1000), 3);
        Check.same("just below", x.steady(1000, Integer.MAX_VALUE), 3);
        Check.same("just above", x.steady(1001, Integer.MAX_VALUE), 0);
        Check.same("hours apart do not add up", x.steady(Integer.MIN_VALUE, 0), 1);
        Check.same("below all", x.steady(Integer.MIN_VALUE, -1), 0);
        for (int hour = 0; hour < 4; hour++) {
            x.climate(1);
        }
        Check.same("up to the last hour", x.steady(1000, 1000), 5);
        Check.same("what was inside ahead of the first hour is no hour", x.steady(20000, 20000), 0);
    }

    private static void promise19Halves() {
        CrateCushions x = new CrateCushions();
        int[][] halves = {{1, 0}, {2, 1}, {3, 1}, {10, 5}, {11, 5}, {9999, 4999}, {10000, 5000}};
        for (int[] half : halves) {
            x.limit(half[0], 7);
            String name = "peak " + half[0] + ": ";
            Check.no(name + "the half, long", x.shock(half[1], 10000));
            Check.yes(name + "above the half, just long", x.shock(half[1] + 1, 8));
            Check.no(name + "above the half, not long", x.shock(half[1] + 1, 7));
            Check.no(name + "the peak, not long", x.shock(half[0], 7));
            if (half[0] < 10000) {
                Check.yes(name + "above the peak, short", x.shock(half[0] + 1, 0));
            }
        }
    }

    private static void promise19LaterLimits() {
        CrateCushions x = new CrateCushions();
        x.shock(500, 500);
        x.limit(400, 400);
        Check.same("what was not told stays so", x.count(5), 0);
        Check.yes("from now on it is", x.shock(500, 500));
        x.limit(10000, 10000);
        Check.same("what was told stays so", x.count(5), 1);
        Check.no("now it is not", x.shock(500, 500));
        Check.same("all shocks", x.count(4), 3);
    }

    private static void promise19And20Shocks() {
        CrateCushions x = new CrateCushions();
        Check.no("none is told at first", x.shock(10000, 10000));
        x.limit(11, 5);
        Check.no("the peak, not long", x.shock(11, 5));
        Check.yes("the peak, long", x.shock(11, 6));
        Check.yes("above the peak", x.shock(12, 0));
        Check.yes("above the half, long", x.shock(6, 6));
        Check.no("above the half, not long", x.shock(6, 5));
        Check.no("the half rounded down", x.shock(5, 10000));
        x.limit(1, 1);
        Check.yes("above 0 is above half of 1", x.shock(1, 2));
        Check.no("but it must be long", x.shock(1, 1));
        Check.no("nothing", x.shock(0, 10000));
        x.limit(10000, 10000);
        Check.no("the widest limits", x.shock(10000, 10000));
        x.limit(10000, 9999);
        Check.yes("long and hard", x.shock(10000, 10000));
        Check.no("hard", x.shock(10000, 9999));
        Check.same("count(4)", x.count(4), 13);
        Check.same("count(5)", x.count(5), 5);
    }

    private static void promise19And20Refusals() {
        CrateCushions x = new CrateCushions();
        x.limit(100, 10);
        int[] limits = {0, -1, 10001, Integer.MIN_VALUE, Integer.MAX_VALUE};
        for (int n : limits) {
            Check.refused("peak " + n, Check.ARGUMENT, () -> x.limit(n, 1));
            Check.refused("length " + n, Check.ARGUMENT, () -> x.limit(1, n));
        }
        int[] shocks = {-1, 10001, Integer.MIN_VALUE, Integer.MAX_VALUE};
        for (int n : shocks) {
            Check.refused("g " + n, Check.ARGUMENT, () -> x.shock(n, 0));
            Check.refused("milliseconds " + n, Check.ARGUMENT, () -> x.shock(200, n));
        }
        Check.same("count(4)", x.count(4), 0);
        Check.same("count(5)", x.count(5), 0);
        Check.no("the limits stayed", x.shock(100, 10));
        Check.yes("the length stayed", x.shock(51, 11));
    }

    /** An object has 512 calls, and no limit of shocks but that. */
    private static void promise20UpToTheLastCall() {
        CrateCushions x = new CrateCushions();
        x.limit(1, 1);
        for (int n = 0; n < 509; n++) {
            x.shock(n % 3, 1);
        }
        Check.same("count(4), the 511th call", x.count(4), 509);
        Check.same("count(5), the 512th call", x.count(5), 169);
    }

    private static void promise21Route() {
        CrateCushions x = new CrateCushions();
        Check.same("route(1, 3)", x.route(1, 3), 68 + 66 + 76);
        Check.same("route(65536, 2)", x.route(65536, 2), 52);
        Check.same("74 modulo 91", x.route(0, 1), 84);
        // 10 is added behind the modulo, so a rest of 90 is a drop of 100, not of 9.
        Check.same("the greatest drop", x.route(seedWithRest(90), 1), 100);
        Check.same("the least drop", x.route(seedWithRest(0), 1), 10);
        for (int legs = 1; legs <= 50; legs++) {
            CrateCushions y = new CrateCushions();
            long sum = y.route(777, legs);
            for (int leg = 0; leg < legs; leg++) {
                sum -= y.drop(leg);
            }
            Check.same("all drops of " + legs + " legs together", sum, 0);
        }
    }

    private static int seedWithRest(int rest) {
        for (int seed = 0; seed <= 65536; seed++) {
            if ((seed * 75L + 74) % 65537 % 91 == rest) {
                return seed;
            }
        }
        return -1;
    }

    private static void promise21WrapsAround() {
        CrateCushions x = new CrateCushions();
        Check.same("65474 is not yet around", x.route(872, 1), 10 + 65474 % 91);
        Check.same("65549 is around to 12", x.route(873, 1), 10 + 12);
        Check.same("52 times around to 0, then 74", x.route(45438, 2), 10 + 10 + 74);
        Check.same("65536 stays 65536", x.route(65536, 50), 50 * 26);
        for (int leg = 0; leg < 50; leg++) {
            Check.same("leg " + leg, x.drop(leg), 26);
        }
        Check.same("the seed is taken anew", x.route(65536, 1), 26);
        Check.same("and not the last s", x.route(0, 1), 84);
    }

    private static void promise21Refusals() {
        CrateCushions x = new CrateCushions();
        x.route(1, 3);
        int[] seeds = {-1, 65537, Integer.MIN_VALUE, Integer.MAX_VALUE};
        for (int seed : seeds) {
            Check.refused("seed " + seed, Check.ARGUMENT, () -> x.route(seed, 1));
        }
        int[] legs = {0, -1, 51, Integer.MIN_VALUE, Integer.MAX_VALUE};
        for (int n : legs) {
            Check.refused("legs " + n, Check.ARGUMENT, () -> x.route(0, n));
        }
        Check.same("the latest route stayed", x.drop(0), 68);
        Check.same("and its last leg", x.drop(2), 76);
    }

    private static void promise22Drop() {
        CrateCushions x = new CrateCushions();
        Check.refused("no route", Check.INDEX, () -> x.drop(0));
        x.route(1, 50);
        long s = 1;
        for (int leg = 0; leg < 50; leg++) {
            s = (s * 75 + 74) % 65537;
            Check.same("leg " + leg, x.drop(leg), 10 + s % 91);
        }
        Check.refused("behind the last", Check.INDEX, () -> x.drop(50));
        x.route(5, 2);
        int[] wrong = {-1, 2, 3, 49, Integer.MIN_VALUE, Integer.MAX_VALUE};
        for (int leg : wrong) {
            Check.refused("leg " + leg, Check.INDEX, () -> x.drop(leg));
        }
    }
}
