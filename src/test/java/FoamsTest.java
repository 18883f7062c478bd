/** Promises 4 (foam), 5 (point), 6 (value) and 7 (thickness). */
public final class FoamsTest {
    public static void main(String[] args) {
        promise4Foam();
        promise4Refusals();
        promise5Point();
        promise5Refusals();
        promise6Value();
        promise6EachRowHasItsOwn();
        promise6Edges();
        promise6RoundedUp();
        promise7Thickness();
        promise7IsByHalving();
        promise7RowsThatAreAsked();
        Check.end("FoamsTest");
    }

    private static void promise4Foam() {
        CrateCushions x = new CrateCushions();
        for (int kind = 0; kind < 4; kind++) {
            for (int row = 0; row < 7; row++) {
                Check.same("row " + row + " of " + kind, x.foam(kind, row + 1), row);
            }
            Check.same("the last row", x.foam(kind, 500), 7);
        }
        for (int kind = 0; kind < 4; kind++) {
            int k = kind;
            Check.refused("a ninth row", Check.STATE, () -> x.foam(k, 501));
            Check.same("a row without points", x.value(kind, 7, 0), -1);
        }
    }

    private static void promise4Refusals() {
        CrateCushions x = new CrateCushions();
        int[] kinds = {-1, 4, Integer.MIN_VALUE, Integer.MAX_VALUE};
        for (int kind : kinds) {
            Check.refused("kind " + kind, Check.INDEX, () -> x.foam(kind, 0));
        }
        int[] wrong = {0, -5, 501, Integer.MIN_VALUE, Integer.MAX_VALUE};
        for (int thickness : wrong) {
            Check.refused("thickness " + thickness, Check.ARGUMENT, () -> x.foam(0, thickness));
        }
        Check.refused("no row came of it", Check.INDEX, () -> x.value(0, 0, 0));
        Check.same("the first row", x.foam(0, 10), 0);
        Check.refused("the same thickness", Check.ARGUMENT, () -> x.foam(0, 10));
        Check.refused("a lesser thickness", Check.ARGUMENT, () -> x.foam(0, 9));
        Check.same("a greater one", x.foam(0, 11), 1);
        Check.same("another kind has its own", x.foam(1, 1), 0);
        Check.same("up to 500", x.foam(1, 500), 1);
        Check.refused("nothing is behind 500", Check.ARGUMENT, () -> x.foam(1, 500));
    }

    private static void promise5Point() {
        CrateCushions x = new CrateCushions();
        x.foam(3, 1);
        x.foam(3, 2);
        Check.same("stress 0, value 1", x.point(3, 1, 0, 1), 1);
        Check.same("value 1000", x.point(3, 1, 1, 1000), 2);
        Check.same("third", x.point(3, 1, 5, 7), 3);
        Check.same("fourth", x.point(3, 1, 6, 7), 4);
        Check.same("fifth", x.point(3, 1, 7, 7), 5);
        Check.same("stress 10000", x.point(3, 1, 10000, 7), 6);
        Check.refused("a seventh", Check.STATE, () -> x.point(3, 1, 10001, 0));
        Check.same("the other row has its own", x.point(3, 0, 10000, 3), 1);
        Check.refused("nothing is behind 10000", Check.ARGUMENT, () -> x.point(3, 0, 10000, 3));
    }

    private static void promise5Refusals() {
        CrateCushions x = new CrateCushions();
        Check.refused("no row yet", Check.INDEX, () -> x.point(0, 0, -1, -1));
        x.foam(0, 1);
        int[] places = {-1, 4, 8, Integer.MIN_VALUE, Integer.MAX_VALUE};
        for (int place : places) {
            Check.refused("kind " + place, Check.INDEX, () -> x.point(place, 0, 1, 1));
            Check.refused("row " + place, Check.INDEX, () -> x.point(0, place, 1, 1));
        }
        Check.refused("a row of another kind", Check.INDEX, () -> x.point(1, 0, 1, 1));
        int[] stresses = {-1, 10001, Integer.MIN_VALUE, Integer.MAX_VALUE};
        for (int stress : stresses) {
            Check.refused("stress " + stress, Check.ARGUMENT, () -> x.point(0, 0, stress, 1));
        }
        int[] values = {0, -1, 1001, Integer.MIN_VALUE, Integer.MAX_VALUE};
        for (int value : values) {
            Check.refused("value " + value, Check.ARGUMENT, () -> x.point(0, 0, 1, value));
        }
        Check.same("the first point", x.point(0, 0, 5, 9), 1);
        Check.refused("the same stress", Check.ARGUMENT, () -> x.point(0, 0, 5, 8));
        Check.refused("a lesser stress", Check.ARGUMENT, () -> x.point(0, 0, 4, 8));
        Check.same("the point stayed", x.value(0, 0, 5), 9);
        Check.same("a greater stress", x.point(0, 0, 6, 8), 2);
    }

    private static void promise6Value() {
        CrateCushions x = new CrateCushions();
        x.foam(2, 40);
        x.point(2, 0, 10, 100);
        x.point(2, 0, 13, 99);
        x.point(2, 0, 16, 101);
        Check.same("ahead of the first", x.value(2, 0, 9), -1);
        Check.same("the first", x.value(2, 0, 10), 100);
        Check.same("99 2/3, up", x.value(2, 0, 11), 100);
        Check.same("99 1/3, up", x.value(2, 0, 12), 100);
        Check.same("the middle", x.value(2, 0, 13), 99);
        Check.same("99 2/3, up, on a rising line", x.value(2, 0, 14), 100);
        Check.same("100 1/3, up, on a rising line", x.value(2, 0, 15), 101);
        Check.same("the last", x.value(2, 0, 16), 101);
        Check.same("behind the last", x.value(2, 0, 17), -1);
    }

    private static void promise6EachRowHasItsOwn() {
        CrateCushions x = new CrateCushions();
        for (int kind = 0; kind < 4; kind++) {
            for (int row = 0; row < 8; row++) {
                x.foam(kind, row + 1);
                for (int point = 0; point < 6; point++) {
                    x.point(kind, row, point, 100 * kind + 10 * row + point + 1);
                }
            }
        }
        for (int kind = 0; kind < 4; kind++) {
            for (int row = 0; row < 8; row++) {
                for (int point = 0; point < 6; point++) {
                    Check.same("value(" + kind + ", " + row + ", " + point + ")",
                            x.value(kind, row, point), 100 * kind + 10 * row + point + 1);
                }
                Check.same("behind the last", x.value(kind, row, 6), -1);
            }
        }
    }

    private static void promise6Edges() {
        CrateCushions x = new CrateCushions();
        x.foam(0, 1);
        Check.same("no point", x.value(0, 0, 0), -1);
        x.point(0, 0, 0, 1000);
        Check.same("the only point", x.value(0, 0, 0), 1000);
        Check.same("behind the only point", x.value(0, 0, 1), -1);
        Check.same("a negative stress", x.value(0, 0, -1), -1);
        x.point(0, 0, 10000, 1);
        Check.same("a long line", x.value(0, 0, 5000), 501);
        Check.same("whole at 1 of 1000", x.value(0, 0, 9999), 2);
        Check.same("the least int", x.value(0, 0, Integer.MIN_VALUE), -1);
        Check.same("the greatest int", x.value(0, 0, Integer.MAX_VALUE), -1);
        int[] places = {-1, 4, 8, Integer.MIN_VALUE, Integer.MAX_VALUE};
        for (int place : places) {
            Check.refused("kind " + place, Check.INDEX, () -> x.value(place, 0, 0));
            Check.refused("row " + place, Check.INDEX, () -> x.value(0, place, 0));
        }
        Check.refused("a row that is not there", Check.INDEX, () -> x.value(0, 1, 0));
        Check.refused("a kind without rows", Check.INDEX, () -> x.value(1, 0, 0));
    }

    private static void promise6RoundedUp() {
        CrateCushions x = new CrateCushions();
        x.foam(0, 1);
        x.point(0, 0, 0, 10);
        x.point(0, 0, 10, 20);
        x.point(0, 0, 20, 10);
        x.point(0, 0, 30, 10);
        Check.same("whole on a rising line", x.value(0, 0, 5), 15);
        Check.same("whole on a falling line", x.value(0, 0, 15), 15);
        Check.same("on a flat line", x.value(0, 0, 25), 10);
        x.foam(0, 2);
        x.point(0, 1, 0, 1);
        x.point(0, 1, 5000, 2);
        x.point(0, 1, 10000, 1);
        int[][] due = {{0, 1}, {1, 2}, {4999, 2}, {5000, 2}, {5001, 2}, {9999, 2}, {10000, 1}};
        for (int[] at : due) {
            Check.same("up from the least above 1, at " + at[0], x.value(0, 1, at[0]), at[1]);
        }
        x.foam(0, 3);
        x.point(0, 2, 0, 1);
        x.point(0, 2, 1, 1000);
        x.point(0, 2, 2, 1);
        for (int stress = 0; stress <= 2; stress++) {
            Check.same("points side by side", x.value(0, 2, stress), stress == 1 ? 1000 : 1);
        }
    }

    private static void promise7Thickness() {
        CrateCushions x = new CrateCushions();
        Check.same("no rows", x.thickness(0, 5, 1000), -1);
        for (int row = 0; row < 8; row++) {
            x.foam(0, 10 * row + 10);
            x.point(0, row, 0, 80 - 10 * row);
            x.point(0, row, 100, 80 - 10 * row);
        }
        for (int row = 0; row < 8; row++) {
            int value = 80 - 10 * row;
            Check.same("at the limit", x.thickness(0, 50, value), 10 * row + 10);
            Check.same("below the limit", x.thickness(0, 50, value + 9), 10 * row + 10);
        }
        Check.same("none is low enough", x.thickness(0, 50, 9), -1);
        Check.same("no row has a value", x.thickness(0, 101, 1000), -1);
        Check.same("a limit below NONE", x.thickness(0, 101, -2), -1);
        Check.same("a negative limit", x.thickness(0, 50, -1), -1);
        Check.same("the greatest limit", x.thickness(0, 50, Integer.MAX_VALUE), 10);
        int[] kinds = {-1, 4, Integer.MIN_VALUE, Integer.MAX_VALUE};
        for (int kind : kinds) {
            Check.refused("kind " + kind, Check.INDEX, () -> x.thickness(kind, 5, 5));
        }
    }

    private static void promise7IsByHalving() {
        // Only row 0 would do, but of three the middle row is asked first and sends us behind it.
        CrateCushions x = new CrateCushions();
        for (int row = 0; row < 3; row++) {
            x.foam(1, row + 1);
        }
        x.point(1, 0, 5, 1);
        Check.same("the row that would do is passed over", x.thickness(1, 5, 10), -1);
        x.point(1, 2, 5, 10);
        Check.same("the last row", x.thickness(1, 5, 10), 3);
        // Of four, row 2 is asked first, then row 1, then row 0.
        CrateCushions y = new CrateCushions();
        for (int row = 0; row < 4; row++) {
            y.foam(1, row + 1);
        }
        y.point(1, 0, 5, 1);
        y.point(1, 2, 5, 1);
        Check.same("row 1 has no value, so row 0 is not asked", y.thickness(1, 5, 10), 3);
        y.point(1, 1, 5, 1);
        Check.same("down to row 0", y.thickness(1, 5, 10), 1);
    }

    private static void promise7RowsThatAreAsked() {
        // By bits: the rows that are asked, of so many, as long as none will do.
        int[] asked = {0, 0b1, 0b10, 0b110, 0b1100, 0b10100, 0b101000, 0b1101000, 0b11010000};
        for (int rows = 1; rows <= 8; rows++) {
            for (int row = 0; row < rows; row++) {
                CrateCushions x = new CrateCushions();
                for (int n = 0; n < rows; n++) {
                    x.foam(3, 10 * n + 10);
                    x.point(3, n, 7, n == row ? 50 : 51);
                }
                boolean found = (asked[rows] >> row & 1) == 1;
                Check.same("only row " + row + " of " + rows, x.thickness(3, 7, 50), found ? 10 * row + 10 : -1);
                Check.same("a limit just below", x.thickness(3, 7, 49), -1);
                Check.same("a limit above all", x.thickness(3, 7, 51), 10);
            }
        }
    }
}
