import java.util.ArrayList;
import java.util.List;
import java.util.function.BooleanSupplier;
import java.util.function.IntSupplier;

/**
 * A fixed run of calls that brings to light what an object holds: first those that only ask, then
 * those that change something. Objects that hold the same answer alike.
 */
final class Probe {
    private final CrateCushions x;
    private final List<String> answers = new ArrayList<>();

    private Probe(CrateCushions x) {
        this.x = x;
    }

    static List<String> answers(CrateCushions x) {
        Probe probe = new Probe(x);
        probe.askCounts();
        probe.askLatestCrate();
        probe.askFoams();
        probe.askRest();
        probe.goOnTravelling();
        probe.takeCrates();
        probe.packEach();
        probe.addMore();
        return probe.answers;
    }

    private void ask(String name, IntSupplier call) {
        answers.add(name + ": " + Check.answer(call));
    }

    private void askBit(String name, BooleanSupplier call) {
        ask(name, () -> call.getAsBoolean() ? 1 : 0);
    }

    private void askCounts() {
        for (int what = 0; what <= 5; what++) {
            int w = what;
            ask("count(" + w + ")", () -> x.count(w));
        }
    }

    private void askSizes() {
        for (int axis = 0; axis < 3; axis++) {
            int a = axis;
            ask("size(" + a + ")", () -> x.size(a));
        }
    }

    private void askLatestCrate() {
        askSizes();
        for (int object = 0; object < 6; object++) {
            int o = object;
            ask("at(" + o + ", -1)", () -> x.at(o, -1));
            ask("at(" + o + ", 0)", () -> x.at(o, 0));
        }
    }

    private void askFoams() {
        for (int row = 0; row < 8; row++) {
            int r = row;
            ask("value(0, " + r + ", 0)", () -> x.value(0, r, 0));
            ask("value(0, " + r + ", 10)", () -> x.value(0, r, 10));
        }
        for (int kind = 0; kind < 4; kind++) {
            int k = kind;
            ask("value(" + k + ", 0, 5)", () -> x.value(k, 0, 5));
            ask("thickness(" + k + ", 10, 80)", () -> x.thickness(k, 10, 80));
        }
    }

    private void askRest() {
        ask("split(900)", () -> x.split(900));
        ask("split(1400)", () -> x.split(1400));
        for (int hour : new int[] {0, 1, 2, 3, 199}) {
            ask("inside(" + hour + ")", () -> x.inside(hour));
        }
        ask("steady(-60000, 60000)", () -> x.steady(-60000, 60000));
        ask("steady(0, 20000)", () -> x.steady(0, 20000));
        for (int leg : new int[] {0, 1, 2, 3, 49}) {
            ask("drop(" + leg + ")", () -> x.drop(leg));
        }
    }

    private void goOnTravelling() {
        ask("climate(10)", () -> x.climate(10));
        ask("lag(2)", () -> x.lag(2));
        ask("climate(-10)", () -> x.climate(-10));
        int[][] shocks = {{100, 10}, {51, 10}, {51, 11}, {50, 11}, {101, 0}, {10000, 10000}};
        for (int[] shock : shocks) {
            askBit("shock(" + shock[0] + ", " + shock[1] + ")", () -> x.shock(shock[0], shock[1]));
        }
        askCounts();
    }

    private void takeCrates() {
        ask("match()", () -> x.match());
        for (int crate = 0; crate < 10; crate++) {
            int c = crate;
            askBit("free(" + c + ")", () -> x.free(c));
        }
        for (int n = 0; n <= 10; n++) {
            ask("match() " + n, () -> x.match());
        }
    }

    private void packEach() {
        for (int object = 0; object < 6; object++) {
            int o = object;
            ask("pack(" + (1 << o) + ", 1)", () -> x.pack(1 << o, 1));
            askSizes();
        }
        for (int object = 0; object < 6; object++) {
            int o = object;
            for (int side = 0; side < 6; side++) {
                int s = side;
                askBit("weak(" + o + ", " + s + ", false)", () -> x.weak(o, s, false));
            }
            ask("pack(" + (1 << o) + ", 2)", () -> x.pack(1 << o, 2));
            ask("at(" + o + ", -1)", () -> x.at(o, -1));
        }
    }

    private void addMore() {
        ask("object(3, 4, 5, 6)", () -> x.object(3, 4, 5, 6));
        ask("crate(7, 8, 9)", () -> x.crate(7, 8, 9));
        for (int row = 0; row < 8; row++) {
            int r = row;
            ask("point(0, " + r + ", 10000, 1)", () -> x.point(0, r, 10000, 1));
        }
        for (int kind = 0; kind < 4; kind++) {
            int k = kind;
            ask("foam(" + k + ", 21)", () -> x.foam(k, 21));
            ask("foam(" + k + ", 500)", () -> x.foam(k, 500));
        }
        ask("route(5, 2)", () -> x.route(5, 2));
        ask("drop(1)", () -> x.drop(1));
        ask("drop(2)", () -> x.drop(2));
    }
}
