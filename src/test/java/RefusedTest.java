import java.util.List;
import java.util.function.Consumer;

/**
 * A refused call: which exception comes, and that what later calls answer is unchanged. Each call
 * is made on an object, and then the probe answers as on a twin that never saw the call. What is
 * due is written out here, not taken from the model.
 */
public final class RefusedTest {
    private static final int MOST_CALLS = 512;
    private static final int CALLS_OF_FULL = 22 + 4 + 6 + 6 + 4 + 8 + 197 + 1;

    private interface State {
        void bring(CrateCushions x);
    }

    private final String name;
    private final State state;
    private final List<String> due;

    private RefusedTest(String name, State state) {
        this.name = name;
        this.state = state;
        due = Probe.answers(made());
    }

    public static void main(String[] args) {
        RefusedTest fresh = new RefusedTest("new", x -> { });
        RefusedTest unpacked = new RefusedTest("unpacked", RefusedTest::unpacked);
        RefusedTest used = new RefusedTest("used", RefusedTest::used);
        RefusedTest full = new RefusedTest("full", RefusedTest::full);
        RefusedTest[] all = {fresh, unpacked, used, full};
        for (RefusedTest state : all) {
            state.wrongNumbers();
            state.wrongPlaces();
            state.wrongArguments();
            state.questions();
        }
        fresh.onNew();
        unpacked.onUnpacked();
        used.onUsed();
        used.placesBehindTheLast();
        full.onFull();
        full.onFullWithWrongArguments();
        full.packThatCantStand();
        new RefusedTest("large", RefusedTest::large).matchWithoutRoom();
        Check.yes("the dearest run keeps to 512 calls", CALLS_OF_FULL + 2 + full.due.size() <= MOST_CALLS);
        Check.end("RefusedTest");
    }

    private static void unpacked(CrateCushions x) {
        x.object(10, 20, 30, 500);
        x.weak(0, 0, true);
        x.crate(100, 100, 100);
        x.climate(7);
    }

    private static void used(CrateCushions x) {
        x.object(10, 20, 30, 500);
        x.object(5, 5, 40, 900);
        x.weak(0, 1, true);
        x.weak(1, 5, true);
        x.foam(0, 10);
        x.foam(0, 20);
        x.foam(2, 7);
        x.point(0, 0, 5, 100);
        x.point(0, 0, 15, 50);
        x.point(0, 1, 0, 60);
        x.pack(3, 2);
        x.crate(100, 100, 100);
        x.crate(60, 60, 60);
        x.match();
        x.lag(7);
        x.climate(0);
        x.climate(-20);
        x.climate(30);
        x.limit(100, 10);
        x.shock(101, 0);
        x.shock(5, 5);
        x.route(9, 3);
    }

    /** Six objects, eight rows of foam 0, six points of its first row, ten crates, 200 hours. */
    private static void full(CrateCushions x) {
        used(x);
        for (int object = 2; object < 6; object++) {
            x.object(object, 2 * object, 9, 100 * object);
        }
        for (int side = 0; side < 6; side++) {
            x.weak(3, side, true);
        }
        for (int row = 2; row < 8; row++) {
            x.foam(0, 10 * row + 10);
        }
        for (int point = 2; point < 6; point++) {
            x.point(0, 0, 10 * point, 50 - point);
        }
        for (int crate = 2; crate < 10; crate++) {
            x.crate(60 - crate, 60, 61 - crate);
        }
        for (int hour = 3; hour < 200; hour++) {
            x.climate(hour % 40);
        }
        x.route(11, 50);
    }

    /** No crate has room for the latest one. */
    private static void large(CrateCushions x) {
        used(x);
        x.object(200, 200, 200, 1);
        x.pack(7, 20);
    }

    private CrateCushions made() {
        CrateCushions x = new CrateCushions();
        state.bring(x);
        return x;
    }

    private void refuses(String call, Class<? extends RuntimeException> exception, Consumer<CrateCushions> run) {
        CrateCushions x = made();
        Check.refused(name + ": " + call, exception, () -> run.accept(x));
        unchanged(call, x);
    }

    private void index(String call, Consumer<CrateCushions> run) {
        refuses(call, Check.INDEX, run);
    }

    private void state(String call, Consumer<CrateCushions> run) {
        refuses(call, Check.STATE, run);
    }

    private void argument(String call, Consumer<CrateCushions> run) {
        refuses(call, Check.ARGUMENT, run);
    }

    private void unchanged(String call, CrateCushions x) {
        List<String> got = Probe.answers(x);
        for (int n = 0; n < due.size(); n++) {
            boolean same = got.get(n).equals(due.get(n));
            Check.yes(name + ", after " + call + ", " + got.get(n) + ", without it " + due.get(n), same);
            if (!same) {
                // What follows differs, too; the first difference tells enough.
                return;
            }
        }
    }

    /** A number that is never there: kinds, sides, axes, what. Other arguments may be wrong, too. */
    private void wrongNumbers() {
        for (int n : new int[] {-1, 4, Integer.MIN_VALUE, Integer.MAX_VALUE}) {
            index("foam(" + n + ", 100)", x -> x.foam(n, 100));
            index("foam(" + n + ", 0)", x -> x.foam(n, 0));
            index("point(" + n + ", 0, 100, 7)", x -> x.point(n, 0, 100, 7));
            index("point(" + n + ", 0, -1, 0)", x -> x.point(n, 0, -1, 0));
            index("value(" + n + ", 0, 5)", x -> x.value(n, 0, 5));
            index("thickness(" + n + ", 5, 500)", x -> x.thickness(n, 5, 500));
        }
        for (int n : new int[] {-1, 3, Integer.MIN_VALUE, Integer.MAX_VALUE}) {
            index("size(" + n + ")", x -> x.size(n));
        }
        for (int n : new int[] {-1, 6, Integer.MIN_VALUE, Integer.MAX_VALUE}) {
            index("weak(" + n + ", 2, true)", x -> x.weak(n, 2, true));
            index("weak(0, " + n + ", true)", x -> x.weak(0, n, true));
            index("count(" + n + ")", x -> x.count(n));
            index("at(" + n + ", 0)", x -> x.at(n, 0));
        }
        for (int n : new int[] {-2, 1, Integer.MIN_VALUE, Integer.MAX_VALUE}) {
            index("at(0, " + n + ")", x -> x.at(0, n));
        }
    }

    /** Places that no object has, however full it is. */
    private void wrongPlaces() {
        for (int n : new int[] {-1, 8, Integer.MIN_VALUE, Integer.MAX_VALUE}) {
            index("point(0, " + n + ", 100, 7)", x -> x.point(0, n, 100, 7));
            index("value(0, " + n + ", 5)", x -> x.value(0, n, 5));
        }
        index("point(3, 0, 100, 7)", x -> x.point(3, 0, 100, 7));
        index("value(3, 0, 5)", x -> x.value(3, 0, 5));
        for (int n : new int[] {-1, 10, Integer.MIN_VALUE, Integer.MAX_VALUE}) {
            index("free(" + n + ")", x -> x.free(n));
        }
        for (int n : new int[] {-1, 200, Integer.MIN_VALUE, Integer.MAX_VALUE}) {
            index("inside(" + n + ")", x -> x.inside(n));
        }
        for (int n : new int[] {-1, 50, Integer.MIN_VALUE, Integer.MAX_VALUE}) {
            index("drop(" + n + ")", x -> x.drop(n));
        }
        for (int n : new int[] {64, 65, -1, -64, Integer.MIN_VALUE, Integer.MAX_VALUE}) {
            index("pack(" + n + ", 1)", x -> x.pack(n, 1));
            index("pack(" + n + ", 21)", x -> x.pack(n, 21));
        }
    }

    /** Arguments that are refused in any state. */
    private void wrongArguments() {
        argument("pack(0, 1)", x -> x.pack(0, 1));
        argument("pack(0, 21)", x -> x.pack(0, 21));
        for (int n : new int[] {0, -1, Integer.MIN_VALUE}) {
            argument("split(" + n + ")", x -> x.split(n));
        }
        for (int n : new int[] {0, 101, Integer.MIN_VALUE, Integer.MAX_VALUE}) {
            argument("lag(" + n + ")", x -> x.lag(n));
        }
        argument("steady(1, 0)", x -> x.steady(1, 0));
        argument("steady(-60000, -60001)", x -> x.steady(-60000, -60001));
        argument("steady of the ends", x -> x.steady(Integer.MAX_VALUE, Integer.MIN_VALUE));
        for (int n : new int[] {0, 10001, Integer.MIN_VALUE, Integer.MAX_VALUE}) {
            argument("limit(" + n + ", 1)", x -> x.limit(n, 1));
            argument("limit(1, " + n + ")", x -> x.limit(1, n));
        }
        for (int n : new int[] {-1, 10001, Integer.MIN_VALUE, Integer.MAX_VALUE}) {
            argument("shock(" + n + ", 100)", x -> x.shock(n, 100));
            argument("shock(101, " + n + ")", x -> x.shock(101, n));
        }
        for (int n : new int[] {-1, 65537, Integer.MIN_VALUE, Integer.MAX_VALUE}) {
            argument("route(" + n + ", 2)", x -> x.route(n, 2));
        }
        for (int n : new int[] {0, 51, -1, Integer.MIN_VALUE, Integer.MAX_VALUE}) {
            argument("route(1, " + n + ")", x -> x.route(1, n));
        }
    }

    /** What is refused for its arguments as long as there is room. */
    private void wrongWithRoom() {
        for (int n : new int[] {0, 201, Integer.MIN_VALUE, Integer.MAX_VALUE}) {
            argument("object(" + n + ", 3, 3, 3)", x -> x.object(n, 3, 3, 3));
            argument("object(3, " + n + ", 3, 3)", x -> x.object(3, n, 3, 3));
            argument("object(3, 3, " + n + ", 3)", x -> x.object(3, 3, n, 3));
        }
        for (int n : new int[] {0, 100001, Integer.MIN_VALUE, Integer.MAX_VALUE}) {
            argument("object(3, 3, 3, " + n + ")", x -> x.object(3, 3, 3, n));
        }
        for (int n : new int[] {0, 501, Integer.MIN_VALUE, Integer.MAX_VALUE}) {
            argument("foam(0, " + n + ")", x -> x.foam(0, n));
            argument("foam(3, " + n + ")", x -> x.foam(3, n));
        }
        for (int n : new int[] {0, 2001, Integer.MIN_VALUE, Integer.MAX_VALUE}) {
            argument("crate(" + n + ", 70, 70)", x -> x.crate(n, 70, 70));
            argument("crate(70, " + n + ", 70)", x -> x.crate(70, n, 70));
            argument("crate(70, 70, " + n + ")", x -> x.crate(70, 70, n));
        }
        for (int n : new int[] {-61, 61, Integer.MIN_VALUE, Integer.MAX_VALUE}) {
            argument("climate(" + n + ")", x -> x.climate(n));
        }
    }

    private void onNew() {
        wrongWithRoom();
        index("weak(0, 0, true)", x -> x.weak(0, 0, true));
        index("point(0, 0, 5, 5)", x -> x.point(0, 0, 5, 5));
        index("value(0, 0, 5)", x -> x.value(0, 0, 5));
        index("pack(1, 0)", x -> x.pack(1, 0));
        index("at(0, 0)", x -> x.at(0, 0));
        index("at(0, -1)", x -> x.at(0, -1));
        index("free(0)", x -> x.free(0));
        index("inside(0)", x -> x.inside(0));
        index("drop(0)", x -> x.drop(0));
        for (int axis = 0; axis < 3; axis++) {
            int a = axis;
            state("size(" + a + ")", x -> x.size(a));
        }
        state("match()", x -> x.match());
    }

    private void onUnpacked() {
        wrongWithRoom();
        for (int axis = 0; axis < 3; axis++) {
            int a = axis;
            state("size(" + a + ")", x -> x.size(a));
        }
        state("at(0, 0)", x -> x.at(0, 0));
        state("at(0, -1)", x -> x.at(0, -1));
        index("at(1, 0)", x -> x.at(1, 0));
        state("match()", x -> x.match());
        argument("pack(1, 21)", x -> x.pack(1, 21));
        argument("pack(1, -1)", x -> x.pack(1, -1));
        index("pack(2, 0)", x -> x.pack(2, 0));
        index("pack(3, 0)", x -> x.pack(3, 0));
    }

    private void onUsed() {
        wrongWithRoom();
        argument("foam(0, 20), as the last row", x -> x.foam(0, 20));
        argument("foam(0, 19)", x -> x.foam(0, 19));
        argument("foam(0, 10), as the first row", x -> x.foam(0, 10));
        for (int n : new int[] {-1, 10001, Integer.MIN_VALUE, Integer.MAX_VALUE}) {
            argument("point(0, 0, " + n + ", 7)", x -> x.point(0, 0, n, 7));
            argument("point(2, 0, " + n + ", 7)", x -> x.point(2, 0, n, 7));
        }
        for (int n : new int[] {0, 1001, Integer.MIN_VALUE, Integer.MAX_VALUE}) {
            argument("point(0, 0, 16, " + n + ")", x -> x.point(0, 0, 16, n));
            argument("point(2, 0, 5, " + n + ")", x -> x.point(2, 0, 5, n));
        }
        argument("point(0, 0, 15, 7), as the last", x -> x.point(0, 0, 15, 7));
        argument("point(0, 0, 14, 7)", x -> x.point(0, 0, 14, 7));
        argument("point(0, 0, 4, 7)", x -> x.point(0, 0, 4, 7));
        argument("point(0, 1, 0, 7)", x -> x.point(0, 1, 0, 7));
        for (int gap : new int[] {-1, 21, Integer.MIN_VALUE, Integer.MAX_VALUE}) {
            argument("pack(1, " + gap + ")", x -> x.pack(1, gap));
            argument("pack(3, " + gap + ")", x -> x.pack(3, gap));
        }
    }

    /** The first number behind what is there, although others could have it. */
    private void placesBehindTheLast() {
        index("weak(2, 0, true)", x -> x.weak(2, 0, true));
        index("point(0, 2, 5, 5)", x -> x.point(0, 2, 5, 5));
        index("point(1, 0, 5, 5)", x -> x.point(1, 0, 5, 5));
        index("value(0, 2, 5)", x -> x.value(0, 2, 5));
        index("value(2, 1, 5)", x -> x.value(2, 1, 5));
        index("pack(4, 0)", x -> x.pack(4, 0));
        index("pack(5, 0)", x -> x.pack(5, 0));
        index("pack(7, 21)", x -> x.pack(7, 21));
        index("at(2, 0)", x -> x.at(2, 0));
        index("at(2, -1)", x -> x.at(2, -1));
        index("free(2)", x -> x.free(2));
        index("inside(3)", x -> x.inside(3));
        index("drop(3)", x -> x.drop(3));
    }

    private void onFull() {
        state("object(3, 3, 3, 3)", x -> x.object(3, 3, 3, 3));
        state("foam(0, 81)", x -> x.foam(0, 81));
        state("point(0, 0, 51, 7)", x -> x.point(0, 0, 51, 7));
        state("crate(1, 1, 1)", x -> x.crate(1, 1, 1));
        state("climate(0)", x -> x.climate(0));
        argument("foam(2, 7)", x -> x.foam(2, 7));
        argument("point(0, 1, 0, 7)", x -> x.point(0, 1, 0, 7));
        argument("pack(63, 21)", x -> x.pack(63, 21));
        argument("pack(8, -1), which can't stand", x -> x.pack(8, -1));
        index("pack(72, 0)", x -> x.pack(72, 0));
    }

    /** IllegalStateException comes ahead of IllegalArgumentException. */
    private void onFullWithWrongArguments() {
        state("object(0, 3, 3, 3)", x -> x.object(0, 3, 3, 3));
        state("object(3, 201, 3, 3)", x -> x.object(3, 201, 3, 3));
        state("object(3, 3, 3, 0)", x -> x.object(3, 3, 3, 0));
        state("foam(0, 0)", x -> x.foam(0, 0));
        state("foam(0, 501)", x -> x.foam(0, 501));
        state("foam(0, 80), as the last row", x -> x.foam(0, 80));
        state("point(0, 0, 10001, 7)", x -> x.point(0, 0, 10001, 7));
        state("point(0, 0, 60, 0)", x -> x.point(0, 0, 60, 0));
        state("point(0, 0, 50, 7), as the last", x -> x.point(0, 0, 50, 7));
        state("crate(0, 1, 1)", x -> x.crate(0, 1, 1));
        state("crate(1, 1, 2001)", x -> x.crate(1, 1, 2001));
        state("climate(61)", x -> x.climate(61));
        state("climate(-61)", x -> x.climate(-61));
    }

    /** What only asks leaves all as it is, whatever it answers. */
    private void questions() {
        List<Consumer<CrateCushions>> asked = List.of(
                x -> x.value(0, 0, 7), x -> x.thickness(0, 7, 1000), x -> x.size(0), x -> x.at(0, -1),
                x -> x.at(0, 0), x -> x.split(1), x -> x.split(1000), x -> x.inside(0),
                x -> x.steady(0, 0), x -> x.drop(0), x -> x.count(0), x -> x.count(5));
        for (int n = 0; n < asked.size(); n++) {
            CrateCushions x = made();
            Consumer<CrateCushions> question = asked.get(n);
            Check.answer(() -> {
                question.accept(x);
                return 0;
            });
            unchanged("question " + n, x);
        }
    }

    private void packThatCantStand() {
        CrateCushions x = made();
        Check.same(name + ": pack(8, 0), which can't stand", x.pack(8, 0), -1);
        Check.same(name + ": pack(63, 5), one of which can't stand", x.pack(63, 5), -1);
        unchanged("pack that answers NONE", x);
    }

    private void matchWithoutRoom() {
        CrateCushions x = made();
        Check.same(name + ": match()", x.match(), -1);
        unchanged("match that answers NONE", x);
    }
}
