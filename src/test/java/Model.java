import java.util.ArrayDeque;
import java.util.ArrayList;
import java.util.Collections;
import java.util.Deque;
import java.util.HashSet;
import java.util.List;
import java.util.Set;
import java.util.TreeSet;

/** A slow second program, written from the document alone with lists and sets; ModelTest compares with it. */
final class Model {
    private static final int NO_SUCH = -1;
    private static final int BAD_VALUE = -2;
    private static final int NOT_POSSIBLE = -3;
    private static final int LIMIT = -4;
    private static final int BAD_TEXT = -5;
    private static final int NONE = -6;

    /** A crossing: over-arc, in-arc, out-arc, sign. */
    private record State(List<List<Integer>> table, int arcs, List<List<Integer>> crossings) {
    }

    private List<List<Integer>> table = List.of(List.of(0));
    private int arcs = 1;
    private List<List<Integer>> crossings = List.of();
    private String text = "";
    private final Deque<State> states = new ArrayDeque<>();

    private void save() {
        states.addLast(new State(table, arcs, crossings));
        if (states.size() > 6) {
            states.removeFirst();
        }
    }

    private int n() {
        return table.size();
    }

    private boolean in(int value, int from, int to) {
        return from <= value && value <= to;
    }

    private boolean element(int x) {
        return in(x, 0, n() - 1);
    }

    private boolean arc(int a) {
        return in(a, 0, arcs - 1);
    }

    private int op(int x, int y) {
        return table.get(x).get(y);
    }

    private interface Product {
        int of(int x, int y);
    }

    private void fill(int size, Product product) {
        List<List<Integer>> rows = new ArrayList<>();
        for (int x = 0; x < size; x++) {
            List<Integer> row = new ArrayList<>();
            for (int y = 0; y < size; y++) {
                row.add(product.of(x, y));
            }
            rows.add(row);
        }
        table = rows;
    }

    int trivial(int size) {
        if (!in(size, 1, 6)) return BAD_VALUE;
        save();
        int old = n();
        fill(size, (x, y) -> x);
        return old;
    }

    int dihedral(int size) {
        if (!in(size, 1, 6)) return BAD_VALUE;
        save();
        int old = n();
        fill(size, (x, y) -> (2 * y - x + size) % size);
        return old;
    }

    int linear(int size, int factor) {
        if (!in(size, 1, 6) || !in(factor, 0, 5)) return BAD_VALUE;
        save();
        int old = n();
        fill(size, (x, y) -> (factor * x + (1 - factor) * y + 100 * size) % size);
        return old;
    }

    int transpositions(int points) {
        if (!in(points, 2, 4)) return BAD_VALUE;
        save();
        List<Set<Integer>> pairs = new ArrayList<>();
        for (int a = 0; a < points; a++) {
            for (int b = a + 1; b < points; b++) {
                pairs.add(Set.of(a, b));
            }
        }
        fill(pairs.size(), (x, y) -> {
            Set<Integer> image = new HashSet<>();
            for (int point : pairs.get(x)) {
                int moved = point;
                if (pairs.get(y).contains(point)) {
                    for (int other : pairs.get(y)) {
                        if (other != point) moved = other;
                    }
                }
                image.add(moved);
            }
            return pairs.indexOf(image);
        });
        return n();
    }

    int setProduct(int x, int y, int product) {
        if (!element(x) || !element(y) || !element(product)) return NO_SUCH;
        save();
        int old = op(x, y);
        List<List<Integer>> before = table;
        fill(n(), (a, b) -> a == x && b == y ? product : before.get(a).get(b));
        return old;
    }

    int invert() {
        if (violation(2) != NONE) return NOT_POSSIBLE;
        save();
        List<List<Integer>> before = table;
        fill(n(), (x, y) -> {
            int z = 0;
            while (before.get(z).get(y) != x) z++;
            return z;
        });
        int different = 0;
        for (int x = 0; x < n(); x++) {
            for (int y = 0; y < n(); y++) {
                if (op(x, y) != before.get(x).get(y)) different++;
            }
        }
        return different;
    }

    int size() {
        return n();
    }

    int product(int x, int y) {
        return element(x) && element(y) ? op(x, y) : NO_SUCH;
    }

    int quotient(int x, int y) {
        if (!element(x) || !element(y)) return NO_SUCH;
        for (int z = 0; z < n(); z++) {
            if (op(z, y) == x) return z;
        }
        return NONE;
    }

    int violation(int axiom) {
        if (!in(axiom, 1, 3)) return NO_SUCH;
        TreeSet<Integer> found = new TreeSet<>();
        for (int x = 0; x < n(); x++) {
            if (axiom == 1 && op(x, x) != x) found.add(x);
            for (int y = 0; y < n(); y++) {
                for (int z = 0; z < n(); z++) {
                    if (axiom == 2 && x != z && op(x, y) == op(z, y)) found.add(y);
                    if (axiom == 3 && op(op(x, y), z) != op(op(x, z), op(y, z))) found.add(100 * x + 10 * y + z);
                }
            }
        }
        return found.isEmpty() ? NONE : found.first();
    }

    int reach(int x) {
        if (!element(x)) return NO_SUCH;
        Deque<Integer> open = new ArrayDeque<>(List.of(x));
        Set<Integer> seen = new HashSet<>(open);
        while (!open.isEmpty()) {
            for (int next : table.get(open.removeFirst())) {
                if (seen.add(next)) open.add(next);
            }
        }
        return mask(seen);
    }

    private static int mask(Set<Integer> set) {
        int mask = 0;
        for (int x : set) {
            mask += 1 << x;
        }
        return mask;
    }

    /** The components by labels: joins the labels of the two ends of each pair. */
    private static int[] labels(int count, List<int[]> pairs) {
        int[] label = new int[count];
        for (int i = 0; i < count; i++) {
            label[i] = i;
        }
        for (int[] pair : pairs) {
            int from = label[pair[0]];
            int to = label[pair[1]];
            for (int i = 0; i < count; i++) {
                if (label[i] == from) label[i] = to;
            }
        }
        return label;
    }

    private static int different(int[] label) {
        Set<Integer> set = new HashSet<>();
        for (int l : label) {
            set.add(l);
        }
        return set.size();
    }

    int tableComponents() {
        List<int[]> pairs = new ArrayList<>();
        for (int x = 0; x < n(); x++) {
            for (int y = 0; y < n(); y++) {
                pairs.add(new int[] {x, op(x, y)});
            }
        }
        return different(labels(n(), pairs));
    }

    int closure(int set) {
        if (set < 0 || set >= 1 << n()) return BAD_VALUE;
        Set<Integer> closed = new HashSet<>();
        for (int x = 0; x < n(); x++) {
            if ((set & 1 << x) != 0) closed.add(x);
        }
        boolean grown = true;
        while (grown) {
            Set<Integer> more = new HashSet<>(closed);
            for (int x : closed) {
                for (int y : closed) {
                    more.add(op(x, y));
                }
            }
            grown = more.size() > closed.size();
            closed = more;
        }
        return mask(closed);
    }

    int generators() {
        for (int number = 0; ; number++) {
            for (int set = 0; set < 1 << n(); set++) {
                if (Integer.bitCount(set) == number && closure(set) == (1 << n()) - 1) return number;
            }
        }
    }

    private List<Integer> column(int y) {
        List<Integer> column = new ArrayList<>();
        for (int x = 0; x < n(); x++) {
            column.add(op(x, y));
        }
        return column;
    }

    private List<Integer> identity() {
        List<Integer> identity = new ArrayList<>();
        for (int x = 0; x < n(); x++) {
            identity.add(x);
        }
        return identity;
    }

    private static List<Integer> then(List<Integer> p, List<Integer> q) {
        List<Integer> both = new ArrayList<>();
        for (int x : p) {
            both.add(q.get(x));
        }
        return both;
    }

    int translationOrder(int y) {
        if (!element(y)) return NO_SUCH;
        if (new HashSet<>(column(y)).size() < n()) return NONE;
        List<Integer> power = column(y);
        int order = 1;
        while (!power.equals(identity())) {
            power = then(power, column(y));
            order++;
        }
        return order;
    }

    int translations() {
        Set<List<Integer>> set = new HashSet<>();
        for (int y = 0; y < n(); y++) {
            set.add(column(y));
        }
        return set.size();
    }

    int innerGroup() {
        if (violation(2) != NONE) return NONE;
        Set<List<Integer>> group = new HashSet<>(Set.of(identity()));
        Deque<List<Integer>> open = new ArrayDeque<>(group);
        while (!open.isEmpty()) {
            List<Integer> p = open.removeLast();
            for (int y = 0; y < n(); y++) {
                List<Integer> q = then(p, column(y));
                if (group.add(q)) open.add(q);
            }
        }
        return group.size();
    }

    int automorphisms() {
        return countAutomorphisms(new ArrayList<>());
    }

    private int countAutomorphisms(List<Integer> p) {
        if (p.size() < n()) {
            int number = 0;
            for (int x = 0; x < n(); x++) {
                if (!p.contains(x)) {
                    p.add(x);
                    number += countAutomorphisms(p);
                    p.remove(p.size() - 1);
                }
            }
            return number;
        }
        for (int x = 0; x < n(); x++) {
            for (int y = 0; y < n(); y++) {
                if (p.get(op(x, y)) != op(p.get(x), p.get(y))) return 0;
            }
        }
        return 1;
    }

    int newDiagram(int newArcs) {
        if (!in(newArcs, 1, 7)) return BAD_VALUE;
        save();
        int old = arcs;
        arcs = newArcs;
        crossings = List.of();
        return old;
    }

    int standard(int which) {
        if (!in(which, 0, 5)) return NO_SUCH;
        save();
        String[] diagrams = {"", "0,1,2+ and 1,2,0+ and 2,0,1+", "0,2,3+ and 1,3,0- and 2,0,1+ and 3,1,2-",
            "0,2,3+ and 3,0,1+ and 1,3,4+ and 4,1,2+ and 2,4,0+", "0,1,1+ and 1,0,0+", ""};
        int[] sizes = {1, 3, 4, 5, 2, 2};
        crossings = parsed(diagrams[which].isEmpty() ? new String[0] : diagrams[which].split(" and "));
        arcs = sizes[which];
        return crossings.size();
    }

    private static List<List<Integer>> parsed(String[] texts) {
        List<List<Integer>> list = new ArrayList<>();
        for (String t : texts) {
            String[] parts = t.substring(0, 5).split(",");
            list.add(List.of(Integer.valueOf(parts[0]), Integer.valueOf(parts[1]), Integer.valueOf(parts[2]),
                    t.endsWith("+") ? 1 : -1));
        }
        return list;
    }

    private void add(int over, int in, int out, int sign) {
        List<List<Integer>> list = new ArrayList<>(crossings);
        list.add(List.of(over, in, out, sign));
        crossings = list;
    }

    int addCrossing(int over, int in, int out, int sign) {
        if (!arc(over) || !arc(in) || !arc(out)) return NO_SUCH;
        if (Math.abs((long) sign) != 1) return BAD_VALUE;
        if (crossings.size() == 10) return LIMIT;
        save();
        add(over, in, out, sign);
        return crossings.size() - 1;
    }

    int removeCrossing(int crossing) {
        if (!in(crossing, 0, crossings.size() - 1)) return NO_SUCH;
        save();
        List<List<Integer>> list = new ArrayList<>(crossings);
        list.remove(crossing);
        crossings = list;
        return list.size();
    }

    private void redirect(int from, int to) {
        List<List<Integer>> list = new ArrayList<>();
        for (List<Integer> c : crossings) {
            list.add(List.of(c.get(0), c.get(1) == from ? to : c.get(1), c.get(2), c.get(3)));
        }
        crossings = list;
    }

    int kink(int arc, int sign) {
        if (!arc(arc)) return NO_SUCH;
        if (Math.abs((long) sign) != 1) return BAD_VALUE;
        if (arcs == 7 || crossings.size() == 10) return LIMIT;
        save();
        redirect(arc, arcs);
        add(arc, arc, arcs, sign);
        return arcs++;
    }

    int poke(int arc, int over) {
        if (!arc(arc) || !arc(over)) return NO_SUCH;
        if (arcs > 5 || crossings.size() > 8) return LIMIT;
        save();
        redirect(arc, arcs + 1);
        add(over, arc, arcs, 1);
        add(over, arcs, arcs + 1, -1);
        arcs += 2;
        return arcs;
    }

    int arcs() {
        return arcs;
    }

    int crossings() {
        return crossings.size();
    }

    int crossing(int crossing, int part) {
        if (!in(crossing, 0, crossings.size() - 1)) return NO_SUCH;
        return in(part, 0, 3) ? crossings.get(crossing).get(part) : BAD_VALUE;
    }

    private boolean closed() {
        List<Integer> ins = new ArrayList<>();
        List<Integer> outs = new ArrayList<>();
        for (List<Integer> c : crossings) {
            ins.add(c.get(1));
            outs.add(c.get(2));
        }
        Collections.sort(ins);
        Collections.sort(outs);
        return ins.equals(outs) && new HashSet<>(ins).size() == ins.size();
    }

    private int[] arcLabels() {
        List<int[]> pairs = new ArrayList<>();
        for (List<Integer> c : crossings) {
            pairs.add(new int[] {c.get(1), c.get(2)});
        }
        return labels(arcs, pairs);
    }

    int components() {
        return closed() ? different(arcLabels()) : NONE;
    }

    int writhe() {
        int sum = 100;
        for (List<Integer> c : crossings) {
            sum += c.get(3);
        }
        return sum;
    }

    int linking(int first, int second) {
        if (!arc(first) || !arc(second)) return NO_SUCH;
        if (!closed()) return NONE;
        int[] label = arcLabels();
        int sum = 100;
        for (List<Integer> c : crossings) {
            if (label[c.get(0)] == label[first] && label[c.get(1)] == label[second]) sum += c.get(3);
        }
        return sum;
    }

    /** All colourings in order, each as an array of colours; tried by counting in base n. */
    private List<int[]> all() {
        List<int[]> list = new ArrayList<>();
        int tries = 1;
        for (int a = 0; a < arcs; a++) {
            tries *= n();
        }
        for (int number = 0; number < tries; number++) {
            int[] colours = new int[arcs];
            int rest = number;
            for (int a = arcs - 1; a >= 0; a--) {
                colours[a] = rest % n();
                rest /= n();
            }
            boolean good = true;
            for (List<Integer> c : crossings) {
                int over = colours[c.get(0)];
                int in = colours[c.get(1)];
                int out = colours[c.get(2)];
                good &= c.get(3) == 1 ? out == op(in, over) : in == op(out, over);
            }
            if (good) list.add(colours);
        }
        return list;
    }

    int colourings() {
        return all().size();
    }

    int colouringsWith(int arc, int colour) {
        if (!arc(arc) || !element(colour)) return NO_SUCH;
        return (int) all().stream().filter(c -> c[arc] == colour).count();
    }

    int colouringsAlike(int first, int second) {
        if (!arc(first) || !arc(second)) return NO_SUCH;
        return (int) all().stream().filter(c -> c[first] == c[second]).count();
    }

    int colouringsUsing(int colours) {
        if (!in(colours, 1, 6)) return BAD_VALUE;
        return (int) all().stream().filter(c -> different(c) == colours).count();
    }

    int colour(int index, int arc) {
        List<int[]> all = all();
        return in(index, 0, all.size() - 1) && arc(arc) ? all.get(index)[arc] : NO_SUCH;
    }

    int type(int code) {
        if (!in(code, 33, 126)) return BAD_VALUE;
        if (text.length() == 70) return LIMIT;
        text += (char) code;
        return text.length();
    }

    int clearText() {
        int old = text.length();
        text = "";
        return old;
    }

    int syntaxError() {
        if (text.matches("[0-6],[0-6],[0-6][+-](;[0-6],[0-6],[0-6][+-]){0,9}")) return NONE;
        for (int end = 1; end <= text.length(); end++) {
            if (!begins(text.substring(0, end))) return end - 1;
        }
        return text.length();
    }

    /** Whether some diagram text begins so: ten crossings are the longest one. */
    private static boolean begins(String start) {
        StringBuilder pattern = new StringBuilder();
        for (char c : start.toCharArray()) {
            pattern.append(c >= '0' && c <= '6' ? 'a' : c == '+' || c == '-' ? 's' : c);
        }
        return "a,a,as;a,a,as;a,a,as;a,a,as;a,a,as;a,a,as;a,a,as;a,a,as;a,a,as;a,a,as".startsWith(pattern.toString())
                && start.indexOf('a') < 0 && start.indexOf('s') < 0;
    }

    int read() {
        if (syntaxError() != NONE) return BAD_TEXT;
        save();
        crossings = parsed(text.split(";"));
        arcs = 0;
        for (List<Integer> c : crossings) {
            arcs = Math.max(arcs, 1 + Collections.max(c.subList(0, 3)));
        }
        text = "";
        return arcs;
    }

    int undo() {
        if (states.isEmpty()) return NOT_POSSIBLE;
        State state = states.removeLast();
        table = state.table();
        arcs = state.arcs();
        crossings = state.crossings();
        return states.size();
    }

    long digest() {
        List<Integer> list = new ArrayList<>();
        list.add(size());
        for (List<Integer> row : table) {
            list.addAll(row);
        }
        Collections.addAll(list, violation(1), violation(2), violation(3), tableComponents(), generators(),
                translations(), innerGroup(), automorphisms(), arcs(), crossings());
        for (List<Integer> c : crossings) {
            list.addAll(c);
        }
        Collections.addAll(list, components(), writhe());
        int[] using = new int[7];
        for (int[] colours : all()) {
            using[different(colours)]++;
        }
        int number = 0;
        for (int u : using) {
            number += u;
        }
        list.add(number);
        for (int colours = 1; colours <= 6; colours++) {
            list.add(using[colours]);
        }
        long hash = 3102;
        for (int value : list) {
            hash = 31 * hash + value;
        }
        return hash;
    }
}
