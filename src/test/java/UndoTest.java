/** Promises 41 and 42: undo and digest. */
public final class UndoTest {
    private static final int NOT_POSSIBLE = -3;
    private static final int NONE = -6;

    private static final Check check = new Check();

    public static void main(String[] args) {
        depth();
        everyUndoable();
        nothingSaved();
        ring();
        digestOfNew();
        digestOfMany();
        check.end();
    }

    private static void depth() {
        KnotColours k = new KnotColours();
        check.due("41: undo() of a new object", k.undo(), NOT_POSSIBLE);
        for (int size = 2; size <= 6; size++) {
            k.trivial(size);
        }
        k.newDiagram(2);
        k.newDiagram(3);
        k.newDiagram(4);
        int[] sizes = {6, 6, 6, 5, 4, 3};
        int[] arcs = {3, 2, 1, 1, 1, 1};
        for (int i = 0; i < 6; i++) {
            check.due("41: undo()", k.undo(), 5 - i);
            check.due("41: size()", k.size(), sizes[i]);
            check.due("41: arcs()", k.arcs(), arcs[i]);
        }
        check.due("41: a seventh undo()", k.undo(), NOT_POSSIBLE);
        check.due("41: size() then", k.size(), 3);
        check.due("41: a further undo()", k.undo(), NOT_POSSIBLE);
    }

    private static KnotColours prepared() {
        KnotColours k = new KnotColours();
        k.linear(5, 2);
        k.standard(2);
        return k;
    }

    private static void everyUndoable() {
        long before = prepared().digest();
        for (int call = 0; call < 13; call++) {
            KnotColours k = prepared();
            for (int code : new int[] {48, 44, 49, 44, 50, 43}) {
                k.type(code);
            }
            doCall(k, call);
            check.due("41: undo() of call " + call, k.undo(), 2);
            check.due("41: digest() after undo of call " + call, k.digest(), before);
        }
    }

    private static void doCall(KnotColours k, int call) {
        switch (call) {
            case 0: k.trivial(3); break;
            case 1: k.dihedral(6); break;
            case 2: k.linear(6, 4); break;
            case 3: k.transpositions(4); break;
            case 4: k.setProduct(4, 4, 0); break;
            case 5: k.invert(); break;
            case 6: k.newDiagram(7); break;
            case 7: k.standard(3); break;
            case 8: k.addCrossing(0, 1, 2, -1); break;
            case 9: k.removeCrossing(0); break;
            case 10: k.kink(2, 1); break;
            case 11: k.poke(3, 0); break;
            default: k.read(); break;
        }
    }

    /** Calls that are refused, or only tell, save nothing. */
    private static void nothingSaved() {
        KnotColours k = prepared();
        k.trivial(7);
        k.dihedral(0);
        k.linear(3, 6);
        k.transpositions(5);
        k.setProduct(0, 0, 5);
        k.newDiagram(0);
        k.standard(6);
        k.addCrossing(0, 0, 4, 1);
        k.addCrossing(0, 0, 0, 0);
        k.removeCrossing(4);
        k.kink(4, 1);
        k.kink(0, 0);
        k.poke(0, 4);
        k.read();
        k.type(48);
        k.digest();
        k.colour(3, 1);
        k.closure(3);
        check.due("41: undo() behind refused calls", k.undo(), 1);
        check.due("41: arcs()", k.arcs(), 1);
        check.due("41: the text stays", k.clearText(), 1);
        k.linear(6, 2);
        k.invert();
        check.due("41: undo() behind a refused invert()", k.undo(), 1);
        check.due("41: size()", k.size(), 5);
        k.newDiagram(6);
        k.kink(0, 1);
        k.kink(0, 1);
        k.poke(0, 1);
        check.due("41: undo() behind refused kink and poke", k.undo(), 2);
        check.due("41: arcs()", k.arcs(), 6);
    }

    /** Saves, takes back and saves again, so that the places of saved states are used in turn. */
    private static void ring() {
        KnotColours k = new KnotColours();
        for (int round = 0; round < 20; round++) {
            for (int arcs = 1; arcs <= 7; arcs++) {
                k.newDiagram(arcs);
            }
            check.due("41: undo()", k.undo(), 5);
            check.due("41: arcs()", k.arcs(), 6);
            check.due("41: undo()", k.undo(), 4);
            check.due("41: arcs()", k.arcs(), 5);
            k.newDiagram(7);
            check.due("41: undo()", k.undo(), 4);
            check.due("41: arcs()", k.arcs(), 5);
        }
    }

    private static long hash(long... values) {
        long hash = 3102;
        for (long value : values) {
            hash = 31 * hash + value;
        }
        return hash;
    }

    private static void digestOfNew() {
        check.due("42: digest() of a new object", new KnotColours().digest(),
                hash(1, 0, NONE, NONE, NONE, 1, 1, 1, 1, 1, 1, 0, 1, 100, 1, 1, 0, 0, 0, 0, 0));
        KnotColours k = new KnotColours();
        k.dihedral(3);
        k.standard(1);
        k.addCrossing(0, 0, 0, -1);
        check.due("42: digest() of a trefoil with one crossing too many", k.digest(),
                hash(3, 0, 2, 1, 2, 1, 0, 1, 0, 2, NONE, NONE, NONE, 1, 2, 3, 6, 6, 3, 4,
                        0, 1, 2, 1, 1, 2, 0, 1, 2, 0, 1, 1, 0, 0, 0, -1, NONE, 102, 9, 3, 0, 6, 0, 0, 0));
        k.type(48);
        long withText = k.digest();
        k.clearText();
        check.due("42: digest() does not depend on the text", withText, k.digest());
    }

    /** Takes the list of the document from the public calls. */
    private static void digestOfMany() {
        for (int size = 1; size <= 6; size++) {
            for (int factor = 0; factor <= 5; factor++) {
                KnotColours k = new KnotColours();
                k.linear(size, factor);
                k.standard(factor);
                k.poke(0, 0);
                k.setProduct(size - 1, 0, factor % size);
                check.due("42: digest() of linear(" + size + ", " + factor + ")", k.digest(), listed(k));
            }
        }
    }

    private static long listed(KnotColours k) {
        java.util.List<Integer> list = new java.util.ArrayList<>();
        list.add(k.size());
        for (int x = 0; x < k.size(); x++) {
            for (int y = 0; y < k.size(); y++) {
                list.add(k.product(x, y));
            }
        }
        java.util.Collections.addAll(list, k.violation(1), k.violation(2), k.violation(3), k.tableComponents(),
                k.generators(), k.translations(), k.innerGroup(), k.automorphisms(), k.arcs(), k.crossings());
        for (int c = 0; c < k.crossings(); c++) {
            for (int part = 0; part < 4; part++) {
                list.add(k.crossing(c, part));
            }
        }
        java.util.Collections.addAll(list, k.components(), k.writhe(), k.colourings());
        for (int colours = 1; colours <= 6; colours++) {
            list.add(k.colouringsUsing(colours));
        }
        long hash = 3102;
        for (int value : list) {
            hash = 31 * hash + value;
        }
        return hash;
    }
}
