/** A workbench for quandles and knot diagrams; ../shared/DOC.md tells its numbered promises. */
public final class KnotColours {
    public static final int NO_SUCH = -1;
    public static final int BAD_VALUE = -2;
    public static final int NOT_POSSIBLE = -3;
    public static final int LIMIT = -4;
    public static final int BAD_TEXT = -5;
    public static final int NONE = -6;

    private static final int MOST_ELEMENTS = 6;
    private static final int MOST_FACTOR = 5;
    private static final int LEAST_POINTS = 2;
    private static final int MOST_POINTS = 4;
    private static final int MOST_PERMUTATIONS = 720;
    private static final int MOST_ARCS = 7;
    private static final int MOST_CROSSINGS = 10;
    private static final int MOST_COLOURINGS = 279936;
    private static final int MOST_SEARCH_STEPS = 1000000;
    private static final int MOST_CHARACTERS = 70;
    private static final int MOST_SAVED = 6;
    private static final int FIRST_CODE = 33;
    private static final int LAST_CODE = 126;
    private static final int SUM_OFFSET = 100;
    private static final long HASH_START = 3102L;

    private static final int OVER = 0;
    private static final int IN = 1;
    private static final int OUT = 2;
    private static final int SIGN = 3;
    private static final int PARTS = 4;

    private static final int STANDARD_DIAGRAMS = 6;
    private static final int[] STANDARD_ARCS = {1, 3, 4, 5, 2, 2};
    /** Diagram d has the crossings STANDARD_STARTS[d] to STANDARD_STARTS[d + 1] - 1. */
    private static final int[] STANDARD_STARTS = {0, 0, 3, 7, 12, 14, 14};
    private static final int[] STANDARD_CROSSINGS = {
        0, 1, 2, 1,   1, 2, 0, 1,   2, 0, 1, 1,
        0, 2, 3, 1,   1, 3, 0, -1,  2, 0, 1, 1,   3, 1, 2, -1,
        0, 2, 3, 1,   3, 0, 1, 1,   1, 3, 4, 1,   4, 1, 2, 1,   2, 4, 0, 1,
        0, 1, 1, 1,   1, 0, 0, 1
    };

    private final Table table = new Table();
    private final Table spare = new Table();
    private final Permutations permutations = new Permutations();
    private final Diagram diagram = new Diagram();
    private final ColouringWalk walk = new ColouringWalk(table, diagram);
    private final DiagramText text = new DiagramText();
    private final History history = new History();

    public KnotColours() {
    }

    // ---- tables

    public int trivial(int size) {
        return isSize(size) ? makeLinear(size, 1) : BAD_VALUE;
    }

    public int dihedral(int size) {
        // -1 is no factor that a caller may give, but 2 * y - x is linear with it
        return isSize(size) ? makeLinear(size, -1) : BAD_VALUE;
    }

    public int linear(int size, int factor) {
        if (!isSize(size) || factor < 0 || factor > MOST_FACTOR) {
            return BAD_VALUE;
        }
        return makeLinear(size, factor);
    }

    public int transpositions(int points) {
        if (points < LEAST_POINTS || points > MOST_POINTS) {
            return BAD_VALUE;
        }
        saveState();
        table.fillTranspositions(points);
        return table.count;
    }

    public int setProduct(int x, int y, int product) {
        if (!table.has(x) || !table.has(y) || !table.has(product)) {
            return NO_SUCH;
        }
        saveState();
        int previous = table.times(x, y);
        table.put(x, y, product);
        return previous;
    }

    public int invert() {
        if (table.firstNoPermutation() != NONE) {
            return NOT_POSSIBLE;
        }
        saveState();
        spare.copyFrom(table);
        return table.fillInverse(spare);
    }

    public int size() {
        return table.count;
    }

    public int product(int x, int y) {
        if (!table.has(x) || !table.has(y)) {
            return NO_SUCH;
        }
        return table.times(x, y);
    }

    public int quotient(int x, int y) {
        if (!table.has(x) || !table.has(y)) {
            return NO_SUCH;
        }
        return table.lowestFactor(x, y);
    }

    public int violation(int axiom) {
        switch (axiom) {
            case 1:
                return table.firstNotIdempotent();
            case 2:
                return table.firstNoPermutation();
            case 3:
                return table.firstNotDistributive();
            default:
                return NO_SUCH;
        }
    }

    public int reach(int x) {
        return table.has(x) ? table.reachedFrom(x) : NO_SUCH;
    }

    public int tableComponents() {
        return table.countComponents();
    }

    public int closure(int set) {
        if (set < 0 || set > table.allElements()) {
            return BAD_VALUE;
        }
        return table.closureOf(set);
    }

    public int generators() {
        return table.leastGenerators();
    }

    public int translationOrder(int y) {
        return table.has(y) ? table.orderOfTranslation(y) : NO_SUCH;
    }

    public int translations() {
        return table.countTranslations();
    }

    public int innerGroup() {
        if (table.firstNoPermutation() != NONE) {
            return NONE;
        }
        return permutations.countCompositions(table);
    }

    public int automorphisms() {
        return permutations.countAutomorphisms(table);
    }

    // ---- diagrams

    public int newDiagram(int arcs) {
        if (arcs < 1 || arcs > MOST_ARCS) {
            return BAD_VALUE;
        }
        saveState();
        int previous = diagram.arcCount;
        diagram.clear(arcs);
        return previous;
    }

    public int standard(int which) {
        if (which < 0 || which >= STANDARD_DIAGRAMS) {
            return NO_SUCH;
        }
        saveState();
        diagram.clear(STANDARD_ARCS[which]);
        for (int c = STANDARD_STARTS[which]; c < STANDARD_STARTS[which + 1]; c++) {
            int at = PARTS * c;
            diagram.append(STANDARD_CROSSINGS[at + OVER], STANDARD_CROSSINGS[at + IN],
                    STANDARD_CROSSINGS[at + OUT], STANDARD_CROSSINGS[at + SIGN]);
        }
        return diagram.crossingCount;
    }

    public int addCrossing(int over, int in, int out, int sign) {
        if (!diagram.hasArc(over) || !diagram.hasArc(in) || !diagram.hasArc(out)) {
            return NO_SUCH;
        }
        if (sign != 1 && sign != -1) {
            return BAD_VALUE;
        }
        if (!diagram.hasRoom(0, 1)) {
            return LIMIT;
        }
        saveState();
        diagram.append(over, in, out, sign);
        return diagram.crossingCount - 1;
    }

    public int removeCrossing(int crossing) {
        if (!diagram.hasCrossing(crossing)) {
            return NO_SUCH;
        }
        saveState();
        diagram.remove(crossing);
        return diagram.crossingCount;
    }

    public int kink(int arc, int sign) {
        if (!diagram.hasArc(arc)) {
            return NO_SUCH;
        }
        if (sign != 1 && sign != -1) {
            return BAD_VALUE;
        }
        if (!diagram.hasRoom(1, 1)) {
            return LIMIT;
        }
        saveState();
        int end = diagram.addArc();
        diagram.moveIn(arc, end);
        diagram.append(arc, arc, end, sign);
        return end;
    }

    public int poke(int arc, int over) {
        if (!diagram.hasArc(arc) || !diagram.hasArc(over)) {
            return NO_SUCH;
        }
        if (!diagram.hasRoom(2, 2)) {
            return LIMIT;
        }
        saveState();
        int middle = diagram.addArc();
        int end = diagram.addArc();
        diagram.moveIn(arc, end);
        diagram.append(over, arc, middle, 1);
        diagram.append(over, middle, end, -1);
        return diagram.arcCount;
    }

    public int arcs() {
        return diagram.arcCount;
    }

    public int crossings() {
        return diagram.crossingCount;
    }

    public int crossing(int crossing, int part) {
        if (!diagram.hasCrossing(crossing)) {
            return NO_SUCH;
        }
        if (part < 0 || part >= PARTS) {
            return BAD_VALUE;
        }
        return diagram.part(crossing, part);
    }

    public int components() {
        return diagram.isClosed() ? diagram.countComponents() : NONE;
    }

    public int writhe() {
        return diagram.signSum() + SUM_OFFSET;
    }

    public int linking(int first, int second) {
        if (!diagram.hasArc(first) || !diagram.hasArc(second)) {
            return NO_SUCH;
        }
        if (!diagram.isClosed()) {
            return NONE;
        }
        return diagram.linkingSum(first, second) + SUM_OFFSET;
    }

    // ---- colourings

    public int colourings() {
        return walk.tally();
    }

    public int colouringsWith(int arc, int colour) {
        if (!diagram.hasArc(arc) || !table.has(colour)) {
            return NO_SUCH;
        }
        return walk.countWith(arc, colour);
    }

    public int colouringsAlike(int first, int second) {
        if (!diagram.hasArc(first) || !diagram.hasArc(second)) {
            return NO_SUCH;
        }
        return walk.countAlike(first, second);
    }

    public int colouringsUsing(int colours) {
        if (colours < 1 || colours > MOST_ELEMENTS) {
            return BAD_VALUE;
        }
        walk.tally();
        return walk.talliedUsing(colours);
    }

    public int colour(int index, int arc) {
        if (index < 0 || index >= MOST_COLOURINGS || !diagram.hasArc(arc)) {
            return NO_SUCH;
        }
        return walk.colourAt(index, arc);
    }

    // ---- text

    public int type(int code) {
        if (code < FIRST_CODE || code > LAST_CODE) {
            return BAD_VALUE;
        }
        if (text.length >= MOST_CHARACTERS) {
            return LIMIT;
        }
        text.append((char) code);
        return text.length;
    }

    public int clearText() {
        int previous = text.length;
        text.clear();
        return previous;
    }

    public int syntaxError() {
        return text.firstError();
    }

    public int read() {
        if (text.firstError() != NONE) {
            return BAD_TEXT;
        }
        saveState();
        text.drawInto(diagram);
        text.clear();
        return diagram.arcCount;
    }

    // ---- undo

    public int undo() {
        if (history.saved == 0) {
            return NOT_POSSIBLE;
        }
        history.restore(table, diagram);
        return history.saved;
    }

    public long digest() {
        long hash = hashTable(HASH_START);
        hash = hashDiagram(hash);
        return hashColourings(hash);
    }

    private static boolean isSize(int size) {
        return size >= 1 && size <= MOST_ELEMENTS;
    }

    private int makeLinear(int size, int factor) {
        saveState();
        int previous = table.count;
        table.fillLinear(size, factor);
        return previous;
    }

    private void saveState() {
        history.save(table, diagram);
    }

    private long hashTable(long start) {
        long hash = mix(start, size());
        for (int x = 0; x < table.count; x++) {
            for (int y = 0; y < table.count; y++) {
                hash = mix(hash, table.times(x, y));
            }
        }
        for (int axiom = 1; axiom <= 3; axiom++) {
            hash = mix(hash, violation(axiom));
        }
        hash = mix(hash, tableComponents());
        hash = mix(hash, generators());
        hash = mix(hash, translations());
        hash = mix(hash, innerGroup());
        return mix(hash, automorphisms());
    }

    private long hashDiagram(long start) {
        long hash = mix(start, arcs());
        hash = mix(hash, crossings());
        for (int c = 0; c < diagram.crossingCount; c++) {
            for (int part = 0; part < PARTS; part++) {
                hash = mix(hash, diagram.part(c, part));
            }
        }
        hash = mix(hash, components());
        return mix(hash, writhe());
    }

    private long hashColourings(long start) {
        // one tally serves all seven numbers, since a walk through all colourings is dear
        long hash = mix(start, walk.tally());
        for (int colours = 1; colours <= MOST_ELEMENTS; colours++) {
            hash = mix(hash, walk.talliedUsing(colours));
        }
        return hash;
    }

    private static long mix(long hash, int value) {
        return 31L * hash + value;
    }

    /** A product of 1 to 6 elements; its methods take elements of the table alone, unless has() says so. */
    private static final class Table {
        int count = 1;
        private final int[] products = new int[MOST_ELEMENTS * MOST_ELEMENTS];

        boolean has(int x) {
            return x >= 0 && x < count;
        }

        int times(int x, int y) {
            return products[MOST_ELEMENTS * x + y];
        }

        void put(int x, int y, int product) {
            products[MOST_ELEMENTS * x + y] = product;
        }

        void copyFrom(Table other) {
            count = other.count;
            System.arraycopy(other.products, 0, products, 0, products.length);
        }

        /** Takes a size from 1 to 6. */
        void fillLinear(int size, int factor) {
            count = size;
            for (int x = 0; x < size; x++) {
                for (int y = 0; y < size; y++) {
                    put(x, y, Math.floorMod(factor * x + (1 - factor) * y, size));
                }
            }
        }

        /** Takes 2 to 4 points. */
        void fillTranspositions(int points) {
            count = points * (points - 1) / 2;
            for (int low = 0; low < points; low++) {
                for (int high = low + 1; high < points; high++) {
                    fillTranslation(low, high, points);
                }
            }
        }

        private void fillTranslation(int low, int high, int points) {
            int y = pairNumber(low, high, points);
            for (int a = 0; a < points; a++) {
                for (int b = a + 1; b < points; b++) {
                    int p = swapped(a, low, high);
                    int q = swapped(b, low, high);
                    put(pairNumber(a, b, points), y,
                            pairNumber(Math.min(p, q), Math.max(p, q), points));
                }
            }
        }

        private static int pairNumber(int low, int high, int points) {
            // the pairs of all lower first points stand ahead: points - 1 of them, points - 2, ...
            return low * (2 * points - low - 1) / 2 + high - low - 1;
        }

        private static int swapped(int point, int low, int high) {
            if (point == low) {
                return high;
            }
            return point == high ? low : point;
        }

        /** Takes a table of permutations; answers how many products differ from it then. */
        int fillInverse(Table before) {
            int changed = 0;
            for (int x = 0; x < count; x++) {
                for (int y = 0; y < count; y++) {
                    int factor = before.lowestFactor(x, y);
                    put(x, y, factor);
                    if (factor != before.times(x, y)) {
                        changed++;
                    }
                }
            }
            return changed;
        }

        int lowestFactor(int x, int y) {
            for (int z = 0; z < count; z++) {
                if (times(z, y) == x) {
                    return z;
                }
            }
            return NONE;
        }

        int firstNotIdempotent() {
            for (int x = 0; x < count; x++) {
                if (times(x, x) != x) {
                    return x;
                }
            }
            return NONE;
        }

        int firstNoPermutation() {
            for (int y = 0; y < count; y++) {
                if (!isPermutation(y)) {
                    return y;
                }
            }
            return NONE;
        }

        private boolean isPermutation(int y) {
            int images = 0;
            for (int x = 0; x < count; x++) {
                images |= 1 << times(x, y);
            }
            return images == allElements();
        }

        int firstNotDistributive() {
            for (int x = 0; x < count; x++) {
                for (int y = 0; y < count; y++) {
                    for (int z = 0; z < count; z++) {
                        if (times(times(x, y), z) != times(times(x, z), times(y, z))) {
                            return 100 * x + 10 * y + z;
                        }
                    }
                }
            }
            return NONE;
        }

        int allElements() {
            return (1 << count) - 1;
        }

        int reachedFrom(int x) {
            int reached = 1 << x;
            // a round that adds nothing is the last that could, so count rounds are enough
            for (int round = 0; round < count; round++) {
                for (int a = 0; a < count; a++) {
                    for (int b = 0; b < count; b++) {
                        if ((reached >> a & 1) == 1) {
                            reached |= 1 << times(a, b);
                        }
                    }
                }
            }
            return reached;
        }

        int countComponents() {
            int number = 0;
            int seen = 0;
            for (int x = 0; x < count; x++) {
                if ((seen >> x & 1) == 0) {
                    number++;
                    seen |= componentOf(x);
                }
            }
            return number;
        }

        private int componentOf(int x) {
            int component = 1 << x;
            for (int round = 0; round < count; round++) {
                for (int a = 0; a < count; a++) {
                    for (int b = 0; b < count; b++) {
                        int link = 1 << a | 1 << times(a, b);
                        if ((component & link) != 0) {
                            component |= link;
                        }
                    }
                }
            }
            return component;
        }

        int closureOf(int set) {
            int closed = set;
            for (int round = 0; round < count; round++) {
                for (int a = 0; a < count; a++) {
                    for (int b = 0; b < count; b++) {
                        if ((closed >> a & 1) == 1 && (closed >> b & 1) == 1) {
                            closed |= 1 << times(a, b);
                        }
                    }
                }
            }
            return closed;
        }

        int leastGenerators() {
            int least = count;
            for (int set = 0; set <= allElements(); set++) {
                if (closureOf(set) == allElements()) {
                    least = Math.min(least, Integer.bitCount(set));
                }
            }
            return least;
        }

        int orderOfTranslation(int y) {
            if (!isPermutation(y)) {
                return NONE;
            }
            int order = 1;
            // no permutation of up to 6 elements has an order above 6
            while (order < MOST_ELEMENTS && !isIdentityAfter(y, order)) {
                order++;
            }
            return order;
        }

        private boolean isIdentityAfter(int y, int steps) {
            for (int x = 0; x < count; x++) {
                int image = x;
                for (int step = 0; step < steps; step++) {
                    image = times(image, y);
                }
                if (image != x) {
                    return false;
                }
            }
            return true;
        }

        int countTranslations() {
            int number = 0;
            for (int y = 0; y < count; y++) {
                if (isNewTranslation(y)) {
                    number++;
                }
            }
            return number;
        }

        private boolean isNewTranslation(int y) {
            for (int earlier = 0; earlier < y; earlier++) {
                if (sameTranslation(earlier, y)) {
                    return false;
                }
            }
            return true;
        }

        private boolean sameTranslation(int y, int z) {
            for (int x = 0; x < count; x++) {
                if (times(x, y) != times(x, z)) {
                    return false;
                }
            }
            return true;
        }
    }

    /** Counts permutations of a table's elements, each told by its rank in lexicographic order. */
    private static final class Permutations {
        private final int[] image = new int[MOST_ELEMENTS];
        private final int[] composed = new int[MOST_ELEMENTS];
        private final int[] queue = new int[MOST_PERMUTATIONS];
        private final boolean[] seen = new boolean[MOST_PERMUTATIONS];

        /** Takes a table whose translations are permutations. */
        int countCompositions(Table table) {
            startAtIdentity();
            int found = 1;
            for (int head = 0; head < found; head++) {
                unrank(queue[head], table.count);
                for (int y = 0; y < table.count; y++) {
                    int rank = rankBehind(table, y);
                    if (!seen[rank] && found < MOST_PERMUTATIONS) {
                        seen[rank] = true;
                        queue[found] = rank;
                        found++;
                    }
                }
            }
            return found;
        }

        private void startAtIdentity() {
            for (int rank = 0; rank < MOST_PERMUTATIONS; rank++) {
                seen[rank] = false;
            }
            seen[0] = true;
            queue[0] = 0;
        }

        /** The rank of the present permutation with the translation by y behind it. */
        private int rankBehind(Table table, int y) {
            for (int x = 0; x < table.count; x++) {
                composed[x] = table.times(image[x], y);
            }
            int rank = 0;
            for (int x = 0; x < table.count; x++) {
                int lowerLater = 0;
                for (int z = x + 1; z < table.count; z++) {
                    if (composed[z] < composed[x]) {
                        lowerLater++;
                    }
                }
                rank = rank * (table.count - x) + lowerLater;
            }
            return rank;
        }

        /** Makes the permutation of that rank the present one; the rank is below the factorial of count. */
        private void unrank(int rank, int count) {
            int rest = rank;
            for (int x = count - 1; x >= 0; x--) {
                int choices = count - x;
                int choice = rest % choices;
                rest = rest / choices;
                image[x] = choice;
                for (int z = x + 1; z < count; z++) {
                    if (image[z] >= choice) {
                        image[z]++;
                    }
                }
            }
        }

        int countAutomorphisms(Table table) {
            int all = 1;
            for (int factor = 2; factor <= table.count; factor++) {
                all *= factor;
            }
            int number = 0;
            for (int rank = 0; rank < all; rank++) {
                unrank(rank, table.count);
                if (keepsProducts(table)) {
                    number++;
                }
            }
            return number;
        }

        private boolean keepsProducts(Table table) {
            for (int x = 0; x < table.count; x++) {
                for (int y = 0; y < table.count; y++) {
                    if (image[table.times(x, y)] != table.times(image[x], image[y])) {
                        return false;
                    }
                }
            }
            return true;
        }
    }

    /** 1 to 7 arcs and up to 10 crossings; its methods take arcs and crossings of the diagram alone. */
    private static final class Diagram {
        int arcCount = 1;
        int crossingCount = 0;
        private final int[] parts = new int[PARTS * MOST_CROSSINGS];

        boolean hasArc(int arc) {
            return arc >= 0 && arc < arcCount;
        }

        boolean hasCrossing(int crossing) {
            return crossing >= 0 && crossing < crossingCount;
        }

        boolean hasRoom(int moreArcs, int moreCrossings) {
            return arcCount + moreArcs <= MOST_ARCS && crossingCount + moreCrossings <= MOST_CROSSINGS;
        }

        int part(int crossing, int part) {
            return parts[PARTS * crossing + part];
        }

        void copyFrom(Diagram other) {
            arcCount = other.arcCount;
            crossingCount = other.crossingCount;
            System.arraycopy(other.parts, 0, parts, 0, parts.length);
        }

        void clear(int newArcs) {
            arcCount = newArcs;
            crossingCount = 0;
        }

        int addArc() {
            arcCount++;
            return arcCount - 1;
        }

        /** Adds a crossing; the caller has seen that there is room. */
        void append(int over, int in, int out, int sign) {
            int at = PARTS * crossingCount;
            parts[at + OVER] = over;
            parts[at + IN] = in;
            parts[at + OUT] = out;
            parts[at + SIGN] = sign;
            crossingCount++;
        }

        void remove(int crossing) {
            int from = PARTS * (crossing + 1);
            System.arraycopy(parts, from, parts, from - PARTS, PARTS * crossingCount - from);
            crossingCount--;
        }

        /** Lets the crossings into which an arc runs take another arc instead. */
        void moveIn(int arc, int newArc) {
            for (int c = 0; c < crossingCount; c++) {
                if (part(c, IN) == arc) {
                    parts[PARTS * c + IN] = newArc;
                }
            }
        }

        boolean isClosed() {
            for (int arc = 0; arc < arcCount; arc++) {
                int ins = countAs(IN, arc);
                if (ins > 1 || ins != countAs(OUT, arc)) {
                    return false;
                }
            }
            return true;
        }

        private int countAs(int part, int arc) {
            int number = 0;
            for (int c = 0; c < crossingCount; c++) {
                if (part(c, part) == arc) {
                    number++;
                }
            }
            return number;
        }

        int countComponents() {
            int number = 0;
            int seen = 0;
            for (int arc = 0; arc < arcCount; arc++) {
                if ((seen >> arc & 1) == 0) {
                    number++;
                    seen |= componentOf(arc);
                }
            }
            return number;
        }

        private int componentOf(int arc) {
            int component = 1 << arc;
            // a round that adds no arc is the last that could, so arcCount rounds are enough
            for (int round = 0; round < arcCount; round++) {
                for (int c = 0; c < crossingCount; c++) {
                    int link = 1 << part(c, IN) | 1 << part(c, OUT);
                    if ((component & link) != 0) {
                        component |= link;
                    }
                }
            }
            return component;
        }

        int signSum() {
            int sum = 0;
            for (int c = 0; c < crossingCount; c++) {
                sum += part(c, SIGN);
            }
            return sum;
        }

        int linkingSum(int first, int second) {
            int above = componentOf(first);
            int below = componentOf(second);
            int sum = 0;
            for (int c = 0; c < crossingCount; c++) {
                if ((above >> part(c, OVER) & 1) == 1 && (below >> part(c, IN) & 1) == 1) {
                    sum += part(c, SIGN);
                }
            }
            return sum;
        }
    }

    /** Goes through the colourings of a diagram in their order, from the present state on each start. */
    private static final class ColouringWalk {
        private final Table table;
        private final Diagram diagram;
        private final int[] colours = new int[MOST_ARCS];
        /** The arc with whose colour all colours of a crossing are known. */
        private final int[] lastArcs = new int[MOST_CROSSINGS];
        private final int[] tallies = new int[MOST_ELEMENTS + 1];
        /** The arc that gets its next colour in the next step; -1 behind the last colouring. */
        private int arc;

        ColouringWalk(Table table, Diagram diagram) {
            this.table = table;
            this.diagram = diagram;
        }

        /** Tallies the colourings by their numbers of different colours; answers how many there are. */
        int tally() {
            for (int used = 0; used <= MOST_ELEMENTS; used++) {
                tallies[used] = 0;
            }
            start();
            int number = 0;
            while (number < MOST_COLOURINGS && advance()) {
                number++;
                tallies[coloursUsed()]++;
            }
            return number;
        }

        /** The number from the last tally; takes 1 to 6. */
        int talliedUsing(int used) {
            return tallies[used];
        }

        private int coloursUsed() {
            int used = 0;
            for (int a = 0; a < diagram.arcCount; a++) {
                used |= 1 << colours[a];
            }
            return Integer.bitCount(used);
        }

        int countWith(int wantedArc, int wantedColour) {
            start();
            int number = 0;
            for (int index = 0; index < MOST_COLOURINGS && advance(); index++) {
                if (colours[wantedArc] == wantedColour) {
                    number++;
                }
            }
            return number;
        }

        int countAlike(int first, int second) {
            start();
            int number = 0;
            for (int index = 0; index < MOST_COLOURINGS && advance(); index++) {
                if (colours[first] == colours[second]) {
                    number++;
                }
            }
            return number;
        }

        int colourAt(int wantedIndex, int wantedArc) {
            start();
            for (int index = 0; index < MOST_COLOURINGS && advance(); index++) {
                if (index == wantedIndex) {
                    return colours[wantedArc];
                }
            }
            return NO_SUCH;
        }

        private void start() {
            for (int a = 0; a < MOST_ARCS; a++) {
                colours[a] = -1;
            }
            for (int c = 0; c < diagram.crossingCount; c++) {
                int lastUnder = Math.max(diagram.part(c, IN), diagram.part(c, OUT));
                lastArcs[c] = Math.max(diagram.part(c, OVER), lastUnder);
            }
            arc = 0;
        }

        /** Goes on to the next colouring, the first one after a start; answers whether there is one. */
        private boolean advance() {
            for (int step = 0; step < MOST_SEARCH_STEPS && arc >= 0; step++) {
                colours[arc]++;
                if (colours[arc] >= table.count) {
                    colours[arc] = -1;
                    arc--;
                } else if (fits()) {
                    if (arc == diagram.arcCount - 1) {
                        return true;
                    }
                    arc++;
                }
            }
            return false;
        }

        /** Looks only at the crossings that the earlier arcs left open. */
        private boolean fits() {
            for (int c = 0; c < diagram.crossingCount; c++) {
                if (lastArcs[c] == arc && !isMet(c)) {
                    return false;
                }
            }
            return true;
        }

        private boolean isMet(int crossing) {
            int over = colours[diagram.part(crossing, OVER)];
            int in = colours[diagram.part(crossing, IN)];
            int out = colours[diagram.part(crossing, OUT)];
            if (diagram.part(crossing, SIGN) == 1) {
                return out == table.times(in, over);
            }
            return in == table.times(out, over);
        }
    }

    /** Up to 70 characters, in which each crossing of a diagram text takes six and a ";" behind it. */
    private static final class DiagramText {
        private static final int PERIOD = 7;
        private static final int SECOND_ARC = 2;
        private static final int THIRD_ARC = 4;
        private static final int SIGN_PLACE = 5;
        private static final int LONGEST = PERIOD * MOST_CROSSINGS - 1;

        int length = 0;
        private final char[] characters = new char[MOST_CHARACTERS];

        /** Appends a character; the caller has seen that there is room. */
        void append(char character) {
            characters[length] = character;
            length++;
        }

        void clear() {
            length = 0;
        }

        int firstError() {
            for (int i = 0; i < length; i++) {
                if (!mayStandAt(i)) {
                    return i;
                }
            }
            return length % PERIOD == PERIOD - 1 ? NONE : length;
        }

        private boolean mayStandAt(int index) {
            char character = characters[index];
            if (index >= LONGEST) {
                return false;
            }
            switch (index % PERIOD) {
                case 1:
                case 3:
                    return character == ',';
                case SIGN_PLACE:
                    return character == '+' || character == '-';
                case PERIOD - 1:
                    return character == ';';
                default:
                    return character >= '0' && character < '0' + MOST_ARCS;
            }
        }

        /** Takes a text without an error. */
        void drawInto(Diagram diagram) {
            int greatest = 0;
            for (int at = 0; at < length; at += PERIOD) {
                greatest = Math.max(greatest, arcAt(at));
                greatest = Math.max(greatest, arcAt(at + SECOND_ARC));
                greatest = Math.max(greatest, arcAt(at + THIRD_ARC));
            }
            diagram.clear(greatest + 1);
            for (int at = 0; at < length; at += PERIOD) {
                int sign = characters[at + SIGN_PLACE] == '+' ? 1 : -1;
                diagram.append(arcAt(at), arcAt(at + SECOND_ARC), arcAt(at + THIRD_ARC), sign);
            }
        }

        private int arcAt(int index) {
            return characters[index] - '0';
        }
    }

    /** The last 6 saved states, in rows that are used again in turn. */
    private static final class History {
        int saved = 0;
        private int next = 0;
        private final Table[] tables = new Table[MOST_SAVED];
        private final Diagram[] diagrams = new Diagram[MOST_SAVED];

        History() {
            for (int i = 0; i < MOST_SAVED; i++) {
                tables[i] = new Table();
                diagrams[i] = new Diagram();
            }
        }

        void save(Table table, Diagram diagram) {
            tables[next].copyFrom(table);
            diagrams[next].copyFrom(diagram);
            next = (next + 1) % MOST_SAVED;
            saved = Math.min(saved + 1, MOST_SAVED);
        }

        /** Brings back the state that was saved last; the caller has seen that there is one. */
        void restore(Table table, Diagram diagram) {
            next = (next + MOST_SAVED - 1) % MOST_SAVED;
            saved--;
            table.copyFrom(tables[next]);
            diagram.copyFrom(diagrams[next]);
        }
    }
}
