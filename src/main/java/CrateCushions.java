/**
 * Crates and cushions for objects on the road. The numbered promises stand in the project's
 * document; each matter (objects, foams, packing, stock, air, shocks, journey) has a class of its
 * own below, which looks at its arguments right where it uses them.
 */
public final class CrateCushions {
    public static final int NONE = -1;

    private static final int MOST_OBJECTS = 6;
    private static final int AXES = 3;
    private static final int WAYS = 6;
    private static final int FOAMS = 4;
    private static final int MOST_ROWS = 8;
    private static final int MOST_POINTS = 6;
    private static final int MOST_CRATES = 10;
    private static final int MOST_HOURS = 200;
    private static final int MOST_LEGS = 50;
    private static final int GREATEST_SHOCK = 10000;

    /** Three entries a way: which size of the object stands along axis 0, 1 and 2. */
    private static final int[] SIZE_OF_WAY = {
        0, 1, 2,
        1, 0, 2,
        0, 2, 1,
        2, 0, 1,
        1, 2, 0,
        2, 1, 0,
    };

    private final Goods goods;
    private final Foams foams;
    private final Packing packing;
    private final Stock stock;
    private final Air air;
    private final Shocks shocks;
    private final Journey journey;

    public CrateCushions() {
        goods = new Goods();
        foams = new Foams();
        packing = new Packing();
        stock = new Stock();
        air = new Air();
        shocks = new Shocks();
        journey = new Journey();
    }

    public int object(int a, int b, int c, int grams) throws IllegalStateException, IllegalArgumentException {
        return goods.add(a, b, c, grams);
    }

    public boolean weak(int object, int side, boolean on) throws IndexOutOfBoundsException {
        return goods.setWeak(object, side, on);
    }

    public int foam(int kind, int thickness)
            throws IndexOutOfBoundsException, IllegalStateException, IllegalArgumentException {
        return foams.addRow(kind, thickness);
    }

    public int point(int kind, int row, int stress, int value)
            throws IndexOutOfBoundsException, IllegalStateException, IllegalArgumentException {
        return foams.addPoint(kind, row, stress, value);
    }

    public int value(int kind, int row, int stress) throws IndexOutOfBoundsException {
        return foams.valueAt(kind, row, stress);
    }

    public int thickness(int kind, int stress, int limit) throws IndexOutOfBoundsException {
        return foams.leastThickness(kind, stress, limit);
    }

    public int pack(int objects, int gap) throws IndexOutOfBoundsException, IllegalArgumentException {
        return packing.packSet(goods, objects, gap);
    }

    public int size(int axis) throws IndexOutOfBoundsException, IllegalStateException {
        return packing.sizeAlong(axis);
    }

    public int at(int object, int what) throws IndexOutOfBoundsException, IllegalStateException {
        requireIndex(object, goods.count);
        return packing.tell(object, what);
    }

    public int crate(int length, int width, int height) throws IllegalStateException, IllegalArgumentException {
        return stock.add(length, width, height);
    }

    public int match() throws IllegalStateException {
        return stock.takeFor(packing.sizeAlong(0), packing.sizeAlong(1), packing.sizeAlong(2));
    }

    public boolean free(int crate) throws IndexOutOfBoundsException {
        return stock.release(crate);
    }

    public int split(int grams) throws IllegalArgumentException {
        return goods.leastCrates(grams);
    }

    public int lag(int hours) throws IllegalArgumentException {
        return air.setLag(hours);
    }

    public int climate(int degrees) throws IllegalStateException, IllegalArgumentException {
        return air.nextHour(degrees);
    }

    public int inside(int hour) throws IndexOutOfBoundsException {
        return air.afterHour(hour);
    }

    public int steady(int low, int high) throws IllegalArgumentException {
        return air.longestWithin(low, high);
    }

    public void limit(int peak, int length) throws IllegalArgumentException {
        shocks.allow(peak, length);
    }

    public boolean shock(int g, int milliseconds) throws IllegalArgumentException {
        return shocks.add(g, milliseconds);
    }

    public int route(int seed, int legs) throws IllegalArgumentException {
        return journey.plan(seed, legs);
    }

    public int drop(int leg) throws IndexOutOfBoundsException {
        return journey.dropOf(leg);
    }

    public int count(int what) throws IndexOutOfBoundsException {
        switch (what) {
            case 0:
                return goods.count;
            case 1:
                return stock.count;
            case 2:
                return stock.takenCount();
            case 3:
                return air.hours;
            case 4:
                return shocks.count;
            case 5:
                return shocks.toldCount;
            default:
                throw new IndexOutOfBoundsException("no such count");
        }
    }

    private static void requireIndex(int index, int count) {
        if (index < 0 || index >= count) {
            throw new IndexOutOfBoundsException("no such number");
        }
    }

    private static void requireRange(int number, int least, int most) {
        if (number < least || number > most) {
            throw new IllegalArgumentException("out of range");
        }
    }

    private static void requireRoom(int count, int most) {
        if (count >= most) {
            throw new IllegalStateException("no room for more");
        }
    }

    /** The objects, their weak sides, and how few crates hold them all. */
    private static final class Goods {
        private static final int LARGEST_SIZE = 200;
        private static final int HEAVIEST = 100000;

        private final int[] sizes = new int[MOST_OBJECTS * AXES];
        private final int[] grams = new int[MOST_OBJECTS];
        private final int[] weakSides = new int[MOST_OBJECTS];
        private final int[] cratesOfSet = new int[1 << MOST_OBJECTS];
        private final int[] loadOfSet = new int[1 << MOST_OBJECTS];
        private int count;

        Goods() {
            count = 0;
        }

        int add(int a, int b, int c, int weight) {
            requireRoom(count, MOST_OBJECTS);
            requireRange(a, 1, LARGEST_SIZE);
            requireRange(b, 1, LARGEST_SIZE);
            requireRange(c, 1, LARGEST_SIZE);
            requireRange(weight, 1, HEAVIEST);
            int first = count * AXES;
            sizes[first] = a;
            sizes[first + 1] = b;
            sizes[first + 2] = c;
            grams[count] = weight;
            count++;
            return count - 1;
        }

        boolean setWeak(int object, int side, boolean on) {
            requireIndex(object, count);
            requireIndex(side, WAYS);
            int bit = 1 << side;
            boolean was = (weakSides[object] & bit) != 0;
            weakSides[object] = on ? weakSides[object] | bit : weakSides[object] & ~bit;
            return was != on;
        }

        boolean mayStand(int object, int way) {
            return (weakSides[object] >> way & 1) == 0;
        }

        boolean mayStandAnyhow(int object) {
            return weakSides[object] != (1 << WAYS) - 1;
        }

        int sizeOf(int object, int way, int axis) {
            return sizes[object * AXES + SIZE_OF_WAY[way * AXES + axis]];
        }

        /** The lowest of the shortest ways with which an object keeps within a width and a height. */
        int shortestWay(int object, int width, int height) {
            int best = NONE;
            int shortest = LARGEST_SIZE + 1;
            for (int way = 0; way < WAYS; way++) {
                int length = sizeOf(object, way, 0);
                boolean within = sizeOf(object, way, 1) <= width && sizeOf(object, way, 2) <= height;
                if (within && length < shortest && mayStand(object, way)) {
                    best = way;
                    shortest = length;
                }
            }
            return best;
        }

        int leastCrates(int limit) {
            if (limit < 1) {
                throw new IllegalArgumentException("grams below 1");
            }
            for (int object = 0; object < count; object++) {
                if (grams[object] > limit) {
                    return NONE;
                }
            }
            cratesOfSet[0] = 0;
            // No crate is open yet; a full one makes the first object open its own.
            loadOfSet[0] = limit;
            int sets = 1 << count;
            for (int set = 1; set < sets; set++) {
                partSet(set, limit);
            }
            return cratesOfSet[sets - 1];
        }

        /**
         * Some object goes in last. Fewest crates, and of those the lightest open one, is never
         * worse for what follows, so one pair a set is enough.
         */
        private void partSet(int set, int limit) {
            int fewest = MOST_OBJECTS + 1;
            int lightest = 0;
            for (int last = 0; last < count; last++) {
                if ((set >> last & 1) == 0) {
                    continue;
                }
                int rest = set ^ 1 << last;
                // Compared by what is left, since load and grams together might pass an int.
                boolean fits = grams[last] <= limit - loadOfSet[rest];
                int crates = fits ? cratesOfSet[rest] : cratesOfSet[rest] + 1;
                int load = fits ? loadOfSet[rest] + grams[last] : grams[last];
                if (crates < fewest || crates == fewest && load < lightest) {
                    fewest = crates;
                    lightest = load;
                }
            }
            cratesOfSet[set] = fewest;
            loadOfSet[set] = lightest;
        }
    }

    /** The foams' tables; a row's place is its number among all rows of all kinds. */
    private static final class Foams {
        private static final int THICKEST = 500;
        private static final int GREATEST_STRESS = 10000;
        private static final int GREATEST_VALUE = 1000;

        private final int[] rowCount = new int[FOAMS];
        private final int[] thicknessOf = new int[FOAMS * MOST_ROWS];
        private final int[] pointCount = new int[FOAMS * MOST_ROWS];
        private final int[] stressOf = new int[FOAMS * MOST_ROWS * MOST_POINTS];
        private final int[] valueOf = new int[FOAMS * MOST_ROWS * MOST_POINTS];

        Foams() {
        }

        int addRow(int kind, int thickness) {
            requireIndex(kind, FOAMS);
            int rows = rowCount[kind];
            requireRoom(rows, MOST_ROWS);
            int place = kind * MOST_ROWS + rows;
            int below = rows == 0 ? 0 : thicknessOf[place - 1];
            requireRange(thickness, below + 1, THICKEST);
            thicknessOf[place] = thickness;
            rowCount[kind] = rows + 1;
            return rows;
        }

        int addPoint(int kind, int row, int stress, int value) {
            int place = placeOf(kind, row);
            int points = pointCount[place];
            requireRoom(points, MOST_POINTS);
            int next = place * MOST_POINTS + points;
            int below = points == 0 ? -1 : stressOf[next - 1];
            requireRange(stress, below + 1, GREATEST_STRESS);
            requireRange(value, 1, GREATEST_VALUE);
            stressOf[next] = stress;
            valueOf[next] = value;
            pointCount[place] = points + 1;
            return points + 1;
        }

        int valueAt(int kind, int row, int stress) {
            int place = placeOf(kind, row);
            int first = place * MOST_POINTS;
            int end = first + pointCount[place];
            for (int point = first; point < end; point++) {
                if (stressOf[point] == stress) {
                    return valueOf[point];
                }
                if (stressOf[point] > stress) {
                    return point == first ? NONE : valueBetween(point - 1, point, stress);
                }
            }
            return NONE;
        }

        int leastThickness(int kind, int stress, int limit) {
            requireIndex(kind, FOAMS);
            int rows = rowCount[kind];
            int low = 0;
            int high = rows;
            while (low < high) {
                int middle = (low + high) / 2;
                int value = valueAt(kind, middle, stress);
                if (value != NONE && value <= limit) {
                    high = middle;
                } else {
                    low = middle + 1;
                }
            }
            return low < rows ? thicknessOf[kind * MOST_ROWS + low] : NONE;
        }

        private int placeOf(int kind, int row) {
            requireIndex(kind, FOAMS);
            requireIndex(row, rowCount[kind]);
            return kind * MOST_ROWS + row;
        }

        private int valueBetween(int left, int right, int stress) {
            int run = stressOf[right] - stressOf[left];
            if (run < 1) {
                return valueOf[right];
            }
            int fall = valueOf[left] - valueOf[right];
            // Rounding the fall down rounds the value up, on rising and on falling lines.
            return valueOf[left] - Math.floorDiv(fall * (stress - stressOf[left]), run);
        }
    }

    /** The latest crate, and the search for it. */
    private static final class Packing {
        private static final int WIDEST_GAP = 20;
        private static final int WAY = -1;
        private static final int START = 0;

        private final int[] sizes = new int[AXES];
        private final int[] wayOf = new int[MOST_OBJECTS];
        private final int[] startOf = new int[MOST_OBJECTS];
        private final int[] triedWay = new int[MOST_OBJECTS];
        private boolean packed;
        private int members;
        private int gap;
        private long leastProduct;

        Packing() {
            packed = false;
        }

        int packSet(Goods goods, int objects, int gapAsked) {
            // The sign stays when shifting, so a negative set is refused, too.
            if (objects >> goods.count != 0) {
                throw new IndexOutOfBoundsException("no such object");
            }
            if (objects == 0) {
                throw new IllegalArgumentException("empty set");
            }
            requireRange(gapAsked, 0, WIDEST_GAP);
            for (int object = 0; object < goods.count; object++) {
                if (isIn(objects, object) && !goods.mayStandAnyhow(object)) {
                    return NONE;
                }
            }
            members = objects;
            gap = gapAsked;
            findLeast(goods);
            placeInRow(goods);
            packed = true;
            return Integer.bitCount(objects);
        }

        int sizeAlong(int axis) {
            requireIndex(axis, AXES);
            requirePacked();
            return sizes[axis];
        }

        int tell(int object, int what) {
            requireIndex(object, MOST_OBJECTS);
            if (what != WAY && what != START) {
                throw new IndexOutOfBoundsException("no such place");
            }
            requirePacked();
            return what == WAY ? wayOf[object] : startOf[object];
        }

        private void requirePacked() {
            if (!packed) {
                throw new IllegalStateException("nothing was packed");
            }
        }

        private static boolean isIn(int set, int object) {
            return (set >> object & 1) != 0;
        }

        private void findLeast(Goods goods) {
            leastProduct = Long.MAX_VALUE;
            int ends = goods.count * AXES;
            for (int broad = 0; broad < ends; broad++) {
                for (int high = 0; high < ends; high++) {
                    if (isIn(members, broad / AXES) && isIn(members, high / AXES)) {
                        tryWithin(goods, goods.sizes[broad], goods.sizes[high]);
                    }
                }
            }
        }

        /**
         * Once width and height are given, each object takes the least length on its own, and the
         * lowest way that has it. A crate is as wide and as high as some sizes of its objects, so
         * trying all pairs of sizes finds the least product and, of equal ones, the lowest ways.
         */
        private void tryWithin(Goods goods, int width, int height) {
            int length = gap;
            for (int object = 0; object < MOST_OBJECTS; object++) {
                triedWay[object] = NONE;
                if (isIn(members, object)) {
                    int way = goods.shortestWay(object, width, height);
                    if (way == NONE) {
                        return;
                    }
                    triedWay[object] = way;
                    length += goods.sizeOf(object, way, 0) + gap;
                }
            }
            long product = (long) length * (width + 2 * gap) * (height + 2 * gap);
            if (product < leastProduct || product == leastProduct && triedIsLower()) {
                leastProduct = product;
                keep(length, width + 2 * gap, height + 2 * gap);
            }
        }

        private boolean triedIsLower() {
            for (int object = 0; object < MOST_OBJECTS; object++) {
                if (triedWay[object] != wayOf[object]) {
                    return triedWay[object] < wayOf[object];
                }
            }
            return false;
        }

        private void keep(int length, int width, int height) {
            sizes[0] = length;
            sizes[1] = width;
            sizes[2] = height;
            System.arraycopy(triedWay, 0, wayOf, 0, MOST_OBJECTS);
        }

        private void placeInRow(Goods goods) {
            int next = gap;
            for (int object = 0; object < MOST_OBJECTS; object++) {
                if (wayOf[object] == NONE) {
                    startOf[object] = NONE;
                } else {
                    startOf[object] = next;
                    next += goods.sizeOf(object, wayOf[object], 0) + gap;
                }
            }
        }
    }

    /** The crates that are there. */
    private static final class Stock {
        private static final int LARGEST_SIZE = 2000;

        private final int[] lengthOf = new int[MOST_CRATES];
        private final int[] widthOf = new int[MOST_CRATES];
        private final int[] heightOf = new int[MOST_CRATES];
        private final boolean[] taken = new boolean[MOST_CRATES];
        private int count;

        Stock() {
            count = 0;
        }

        int add(int length, int width, int height) {
            requireRoom(count, MOST_CRATES);
            requireRange(length, 1, LARGEST_SIZE);
            requireRange(width, 1, LARGEST_SIZE);
            requireRange(height, 1, LARGEST_SIZE);
            lengthOf[count] = length;
            widthOf[count] = width;
            heightOf[count] = height;
            count++;
            return count - 1;
        }

        int takeFor(int length, int width, int height) {
            int best = NONE;
            long least = Long.MAX_VALUE;
            for (int crate = 0; crate < count; crate++) {
                long product = (long) lengthOf[crate] * widthOf[crate] * heightOf[crate];
                if (!taken[crate] && hasRoom(crate, length, width, height) && product < least) {
                    best = crate;
                    least = product;
                }
            }
            if (best != NONE) {
                taken[best] = true;
            }
            return best;
        }

        boolean release(int crate) {
            requireIndex(crate, count);
            boolean was = taken[crate];
            taken[crate] = false;
            return was;
        }

        int takenCount() {
            int sum = 0;
            for (int crate = 0; crate < count; crate++) {
                if (taken[crate]) {
                    sum++;
                }
            }
            return sum;
        }

        private boolean hasRoom(int crate, int length, int width, int height) {
            boolean straight = length <= lengthOf[crate] && width <= widthOf[crate];
            boolean turned = width <= lengthOf[crate] && length <= widthOf[crate];
            return height <= heightOf[crate] && (straight || turned);
        }
    }

    /** The climate within, hour by hour. */
    private static final class Air {
        private static final int FIRST_INSIDE = 20000;
        private static final int FIRST_LAG = 4;
        private static final int LONGEST_LAG = 100;
        private static final int FARTHEST_DEGREES = 60;

        private final int[] insideAfter = new int[MOST_HOURS];
        private int hours;
        private int lagHours;

        Air() {
            hours = 0;
            lagHours = FIRST_LAG;
        }

        int setLag(int lagAsked) {
            requireRange(lagAsked, 1, LONGEST_LAG);
            int was = lagHours;
            lagHours = lagAsked;
            return was;
        }

        int nextHour(int degrees) {
            requireRoom(hours, MOST_HOURS);
            requireRange(degrees, -FARTHEST_DEGREES, FARTHEST_DEGREES);
            int before = hours == 0 ? FIRST_INSIDE : insideAfter[hours - 1];
            int step = Math.floorDiv(degrees * 1000 - before, Math.max(lagHours, 1));
            insideAfter[hours] = before + step;
            hours++;
            return before + step;
        }

        int afterHour(int hour) {
            requireIndex(hour, hours);
            return insideAfter[hour];
        }

        int longestWithin(int low, int high) {
            if (low > high) {
                throw new IllegalArgumentException("low above high");
            }
            int longest = 0;
            int run = 0;
            for (int hour = 0; hour < hours; hour++) {
                boolean within = insideAfter[hour] >= low && insideAfter[hour] <= high;
                run = within ? run + 1 : 0;
                longest = Math.max(longest, run);
            }
            return longest;
        }
    }

    /** The shocks on the way, and which of them are told. */
    private static final class Shocks {
        private int peak;
        private int longest;
        private int count;
        private int toldCount;

        Shocks() {
            // No shock can pass these, so none is told until there is a limit.
            peak = GREATEST_SHOCK;
            longest = GREATEST_SHOCK;
            count = 0;
            toldCount = 0;
        }

        void allow(int peakAsked, int longestAsked) {
            requireRange(peakAsked, 1, GREATEST_SHOCK);
            requireRange(longestAsked, 1, GREATEST_SHOCK);
            peak = peakAsked;
            longest = longestAsked;
        }

        boolean add(int g, int milliseconds) {
            requireRange(g, 0, GREATEST_SHOCK);
            requireRange(milliseconds, 0, GREATEST_SHOCK);
            boolean told = g > peak || g > peak / 2 && milliseconds > longest;
            count++;
            if (told) {
                toldCount++;
            }
            return told;
        }
    }

    /** The latest route's drops. */
    private static final class Journey {
        private static final int MODULUS = 65537;

        private final int[] drops = new int[MOST_LEGS];
        private int legCount;

        Journey() {
            legCount = 0;
        }

        int plan(int seed, int legs) {
            requireRange(seed, 0, MODULUS - 1);
            requireRange(legs, 1, MOST_LEGS);
            int s = seed;
            int sum = 0;
            for (int leg = 0; leg < legs; leg++) {
                s = (s * 75 + 74) % MODULUS;
                drops[leg] = 10 + s % 91;
                sum += drops[leg];
            }
            legCount = legs;
            return sum;
        }

        int dropOf(int leg) {
            requireIndex(leg, legCount);
            return drops[leg];
        }
    }
}
