/** Promises 1 to 19: a new object and the tables. */
public final class TableTest {
    private static final int NO_SUCH = -1;
    private static final int BAD_VALUE = -2;
    private static final int NOT_POSSIBLE = -3;
    private static final int NONE = -6;
    private static final int LOW = Integer.MIN_VALUE;
    private static final int HIGH = Integer.MAX_VALUE;

    private static final Check check = new Check();

    public static void main(String[] args) {
        newObject();
        trivial();
        dihedral();
        linear();
        transpositions();
        setProduct();
        invert();
        sizeAndProduct();
        quotient();
        violation();
        reach();
        tableComponents();
        closure();
        generators();
        translationOrder();
        translations();
        innerGroup();
        automorphisms();
        check.end();
    }

    /** Compares the table with rows of digits: rows[x].charAt(y) is x * y. */
    private static void table(String promise, KnotColours k, String... rows) {
        check.due(promise + " size()", k.size(), rows.length);
        for (int x = 0; x < rows.length; x++) {
            for (int y = 0; y < rows.length; y++) {
                check.due(promise + " product(" + x + ", " + y + ")", k.product(x, y), rows[x].charAt(y) - '0');
            }
        }
    }

    /** A workbench with the table of these rows. */
    private static KnotColours with(String... rows) {
        KnotColours k = new KnotColours();
        k.trivial(rows.length);
        for (int x = 0; x < rows.length; x++) {
            for (int y = 0; y < rows.length; y++) {
                k.setProduct(x, y, rows[x].charAt(y) - '0');
            }
        }
        return k;
    }

    private static void newObject() {
        KnotColours k = new KnotColours();
        table("1:", k, "0");
        check.due("1: arcs()", k.arcs(), 1);
        check.due("1: crossings()", k.crossings(), 0);
        check.due("1: syntaxError()", k.syntaxError(), 0);
        check.due("1: clearText()", k.clearText(), 0);
        check.due("1: undo()", k.undo(), NOT_POSSIBLE);
        KnotColours other = new KnotColours();
        other.trivial(3);
        other.newDiagram(4);
        check.due("1: size() of another object", k.size(), 1);
        check.due("1: arcs() of another object", k.arcs(), 1);
    }

    private static void trivial() {
        KnotColours k = new KnotColours();
        check.due("2: trivial(6)", k.trivial(6), 1);
        table("2:", k, "000000", "111111", "222222", "333333", "444444", "555555");
        check.due("2: trivial(1)", k.trivial(1), 6);
        table("2:", k, "0");
        check.due("2: trivial(3)", k.trivial(3), 1);
        for (int size : new int[] {0, 7, -1, LOW, HIGH}) {
            check.due("2: trivial(" + size + ")", k.trivial(size), BAD_VALUE);
        }
        table("2:", k, "000", "111", "222");
        check.due("2: undo()", k.undo(), 2);
        check.due("2: size()", k.size(), 1);
    }

    private static void dihedral() {
        KnotColours k = new KnotColours();
        check.due("3: dihedral(3)", k.dihedral(3), 1);
        table("3:", k, "021", "210", "102");
        check.due("3: dihedral(6)", k.dihedral(6), 3);
        table("3:", k, "024024", "513513", "402402", "351351", "240240", "135135");
        check.due("3: dihedral(1)", k.dihedral(1), 6);
        table("3:", k, "0");
        check.due("3: dihedral(2)", k.dihedral(2), 1);
        table("3:", k, "00", "11");
        for (int size : new int[] {0, 7, -1, LOW, HIGH}) {
            check.due("3: dihedral(" + size + ")", k.dihedral(size), BAD_VALUE);
        }
        check.due("3: undo()", k.undo(), 3);
        table("3:", k, "0");
    }

    private static void linear() {
        KnotColours k = new KnotColours();
        check.due("4: linear(5, 2)", k.linear(5, 2), 1);
        table("4:", k, "04321", "21043", "43210", "10432", "32104");
        check.due("4: linear(6, 0)", k.linear(6, 0), 5);
        table("4:", k, "012345", "012345", "012345", "012345", "012345", "012345");
        check.due("4: linear(4, 5)", k.linear(4, 5), 6);
        table("4:", k, "0000", "1111", "2222", "3333");
        check.due("4: linear(6, 5)", k.linear(6, 5), 4);
        table("4:", k, "024024", "513513", "402402", "351351", "240240", "135135");
        check.due("4: linear(1, 4)", k.linear(1, 4), 6);
        check.due("4: linear(6, 3)", k.linear(6, 3), 1);
        table("4:", k, "042042", "315315", "042042", "315315", "042042", "315315");
        for (int wrong : new int[] {-1, 6, LOW, HIGH}) {
            check.due("4: linear(3, " + wrong + ")", k.linear(3, wrong), BAD_VALUE);
        }
        for (int size : new int[] {0, 7, -1, LOW, HIGH}) {
            check.due("4: linear(" + size + ", 2)", k.linear(size, 2), BAD_VALUE);
        }
        check.due("4: undo()", k.undo(), 5);
        check.due("4: size()", k.size(), 1);
    }

    private static void transpositions() {
        KnotColours k = new KnotColours();
        check.due("5: transpositions(4)", k.transpositions(4), 6);
        // the pairs are 01, 02, 03, 12, 13, 23 in this order
        table("5:", k, "034120", "315012", "452201", "103354", "240543", "521435");
        check.due("5: transpositions(3)", k.transpositions(3), 3);
        table("5:", k, "021", "210", "102");
        check.due("5: transpositions(2)", k.transpositions(2), 1);
        table("5:", k, "0");
        for (int points : new int[] {1, 5, 0, -1, LOW, HIGH}) {
            check.due("5: transpositions(" + points + ")", k.transpositions(points), BAD_VALUE);
        }
        check.due("5: undo()", k.undo(), 2);
        check.due("5: size()", k.size(), 3);
    }

    private static void setProduct() {
        KnotColours k = new KnotColours();
        k.trivial(3);
        check.due("6: setProduct(1, 2, 0)", k.setProduct(1, 2, 0), 1);
        table("6:", k, "000", "110", "222");
        check.due("6: setProduct(1, 2, 2)", k.setProduct(1, 2, 2), 0);
        check.due("6: setProduct(2, 1, 2), no change", k.setProduct(2, 1, 2), 2);
        table("6:", k, "000", "112", "222");
        for (int wrong : new int[] {-1, 3, 6, LOW, HIGH}) {
            check.due("6: setProduct(" + wrong + ", 0, 0)", k.setProduct(wrong, 0, 0), NO_SUCH);
            check.due("6: setProduct(0, " + wrong + ", 0)", k.setProduct(0, wrong, 0), NO_SUCH);
            check.due("6: setProduct(0, 0, " + wrong + ")", k.setProduct(0, 0, wrong), NO_SUCH);
        }
        table("6:", k, "000", "112", "222");
        check.due("6: undo() of no change", k.undo(), 3);
        check.due("6: undo()", k.undo(), 2);
        table("6:", k, "000", "110", "222");
    }

    private static void invert() {
        KnotColours k = new KnotColours();
        check.due("7: invert() of one element", k.invert(), 0);
        k.linear(5, 2);
        check.due("7: invert()", k.invert(), 20);
        table("7:", k, "03142", "31420", "14203", "42031", "20314");
        k.dihedral(6);
        check.due("7: invert() of involutions", k.invert(), 0);
        table("7:", k, "024024", "513513", "402402", "351351", "240240", "135135");
        KnotColours cycle = with("100", "211", "022");
        // the translation by 0 is a cycle of three, the other two are the identity and a swap
        check.due("7: setProduct", cycle.setProduct(0, 1, 0), 0);
        table("7:", cycle, "100", "211", "022");
        check.due("7: invert() of one cycle", cycle.invert(), 3);
        table("7:", cycle, "200", "011", "122");
        check.due("7: undo()", cycle.undo(), 5);
        table("7:", cycle, "100", "211", "022");
        KnotColours bad = with("000", "111", "220");
        check.due("7: invert() against axiom 2", bad.invert(), NOT_POSSIBLE);
        table("7:", bad, "000", "111", "220");
    }

    private static void sizeAndProduct() {
        KnotColours k = new KnotColours();
        check.due("8: size()", k.size(), 1);
        k.linear(4, 2);
        check.due("8: size()", k.size(), 4);
        check.due("9: product(0, 1)", k.product(0, 1), 3);
        check.due("9: product(1, 0)", k.product(1, 0), 2);
        check.due("9: product(3, 3)", k.product(3, 3), 3);
        for (int wrong : new int[] {-1, 4, 6, LOW, HIGH}) {
            check.due("9: product(" + wrong + ", 0)", k.product(wrong, 0), NO_SUCH);
            check.due("9: product(0, " + wrong + ")", k.product(0, wrong), NO_SUCH);
        }
    }

    private static void quotient() {
        KnotColours k = new KnotColours();
        k.linear(6, 2);
        check.due("10: quotient(4, 0), the lowest of 2 and 5", k.quotient(4, 0), 2);
        check.due("10: quotient(3, 0)", k.quotient(3, 0), NONE);
        check.due("10: quotient(3, 1)", k.quotient(3, 1), 2);
        check.due("10: quotient(5, 5)", k.quotient(5, 5), 2);
        for (int wrong : new int[] {-1, 6, LOW, HIGH}) {
            check.due("10: quotient(" + wrong + ", 0)", k.quotient(wrong, 0), NO_SUCH);
            check.due("10: quotient(0, " + wrong + ")", k.quotient(0, wrong), NO_SUCH);
        }
        k.linear(5, 2);
        check.due("10: quotient(1, 0)", k.quotient(1, 0), 3);
        check.due("10: quotient(0, 1)", k.quotient(0, 1), 3);
        check.due("10: quotient(5, 1)", k.quotient(5, 1), NO_SUCH);
    }

    private static void violations(KnotColours k, String name, int first, int second, int third) {
        check.due("11: violation(1) of " + name, k.violation(1), first);
        check.due("11: violation(2) of " + name, k.violation(2), second);
        check.due("11: violation(3) of " + name, k.violation(3), third);
    }

    private static void violation() {
        KnotColours k = new KnotColours();
        violations(k, "one element", NONE, NONE, NONE);
        k.transpositions(4);
        violations(k, "transpositions", NONE, NONE, NONE);
        k.linear(6, 3);
        violations(k, "linear(6, 3)", NONE, 0, NONE);
        violations(with("000", "112", "221"), "a late swap", 2, NONE, 112);
        violations(with("000", "111", "220"), "a late merge", 2, 2, NONE);
        violations(with("111111", "022222", "233333", "344444", "455555", "500000"), "a cycle and a swap", 0, NONE, 0);
        violations(with("001", "110", "222"), "a late swap of 0 and 1", NONE, NONE, NONE);
        violations(with("021", "210", "100"), "dihedral(3) with a fault", 2, 2, 1);
        violations(with("100", "211", "122"), "one without the product 0", 0, 0, 0);
        for (int axiom : new int[] {0, 4, -1, LOW, HIGH}) {
            check.due("11: violation(" + axiom + ")", k.violation(axiom), NO_SUCH);
        }
    }

    private static void reach() {
        KnotColours k = new KnotColours();
        check.due("12: reach(0) of one element", k.reach(0), 1);
        k.dihedral(6);
        check.due("12: reach(0)", k.reach(0), 21);
        check.due("12: reach(3)", k.reach(3), 42);
        k.trivial(6);
        check.due("12: reach(5), no times", k.reach(5), 32);
        KnotColours chain = with("500000", "111111", "111111", "222222", "333333", "444444");
        check.due("12: reach(0) down a chain", chain.reach(0), 63);
        check.due("12: reach(1)", chain.reach(1), 2);
        check.due("12: reach(3)", chain.reach(3), 14);
        for (int wrong : new int[] {-1, 6, LOW, HIGH}) {
            check.due("12: reach(" + wrong + ")", k.reach(wrong), NO_SUCH);
        }
    }

    private static void tableComponents() {
        KnotColours k = new KnotColours();
        check.due("13: tableComponents()", k.tableComponents(), 1);
        k.trivial(6);
        check.due("13: tableComponents() of trivial(6)", k.tableComponents(), 6);
        k.dihedral(6);
        check.due("13: tableComponents() of dihedral(6)", k.tableComponents(), 2);
        k.dihedral(5);
        check.due("13: tableComponents() of dihedral(5)", k.tableComponents(), 1);
        KnotColours oneWay = with("333333", "111111", "444444", "333333", "444444", "333333");
        check.due("13: tableComponents() of arrows one way", oneWay.tableComponents(), 3);
        KnotColours chain = with("500000", "111111", "111111", "222222", "333333", "444444");
        check.due("13: tableComponents() of a chain", chain.tableComponents(), 1);
    }

    private static void closure() {
        KnotColours k = new KnotColours();
        check.due("14: closure(0) of one element", k.closure(0), 0);
        check.due("14: closure(1) of one element", k.closure(1), 1);
        check.due("14: closure(2) of one element", k.closure(2), BAD_VALUE);
        k.transpositions(4);
        check.due("14: closure(0)", k.closure(0), 0);
        check.due("14: closure(1)", k.closure(1), 1);
        check.due("14: closure of 01 and 02", k.closure(3), 11);
        check.due("14: closure of 01 and 23", k.closure(33), 33);
        check.due("14: closure of 01, 12 and 23", k.closure(41), 63);
        check.due("14: closure(63)", k.closure(63), 63);
        for (int set : new int[] {-1, 64, 65, 128, LOW, HIGH}) {
            check.due("14: closure(" + set + ")", k.closure(set), BAD_VALUE);
        }
        KnotColours chain = with("555555", "111111", "111111", "222222", "333333", "444444");
        check.due("14: closure(1) down a chain", chain.closure(1), 63);
        check.due("14: closure(8) down a chain", chain.closure(8), 14);
        k.trivial(3);
        check.due("14: closure(8) of three", k.closure(8), BAD_VALUE);
        check.due("14: closure(5) of three", k.closure(5), 5);
    }

    private static void generators() {
        KnotColours k = new KnotColours();
        check.due("15: generators()", k.generators(), 1);
        k.trivial(6);
        check.due("15: generators() of trivial(6)", k.generators(), 6);
        k.dihedral(6);
        check.due("15: generators() of dihedral(6)", k.generators(), 2);
        k.transpositions(4);
        check.due("15: generators() of transpositions(4)", k.generators(), 3);
        KnotColours cycle = with("111111", "022222", "233333", "344444", "455555", "500000");
        check.due("15: generators() of a cycle", cycle.generators(), 1);
    }

    private static void translationOrder() {
        KnotColours k = new KnotColours();
        check.due("16: translationOrder(0)", k.translationOrder(0), 1);
        k.dihedral(6);
        check.due("16: translationOrder(3)", k.translationOrder(3), 2);
        k.linear(5, 3);
        check.due("16: translationOrder(4)", k.translationOrder(4), 4);
        k.linear(6, 2);
        check.due("16: translationOrder(0), no permutation", k.translationOrder(0), NONE);
        KnotColours five = with("12111", "20222", "01000", "43333", "34444");
        check.due("16: translationOrder(0), cycles of 3 and 2", five.translationOrder(0), 6);
        check.due("16: translationOrder(1), a cycle of 3", five.translationOrder(1), 3);
        KnotColours mixed = with("110", "002", "221");
        check.due("16: translationOrder(0) of a swap", mixed.translationOrder(0), 2);
        check.due("16: translationOrder(2) of a late swap", mixed.translationOrder(2), 2);
        KnotColours cycle = with("111111", "022222", "233333", "344444", "455555", "500000");
        check.due("16: translationOrder(1), a cycle of 6", cycle.translationOrder(1), 6);
        check.due("16: translationOrder(0), a swap beside it", cycle.translationOrder(0), 2);
        for (int wrong : new int[] {-1, 6, LOW, HIGH}) {
            check.due("16: translationOrder(" + wrong + ")", cycle.translationOrder(wrong), NO_SUCH);
        }
    }

    private static void translations() {
        KnotColours k = new KnotColours();
        check.due("17: translations()", k.translations(), 1);
        k.trivial(6);
        check.due("17: translations() of trivial(6)", k.translations(), 1);
        k.dihedral(6);
        check.due("17: translations() of dihedral(6)", k.translations(), 3);
        k.dihedral(4);
        check.due("17: translations() of dihedral(4)", k.translations(), 2);
        k.linear(6, 0);
        check.due("17: translations() of linear(6, 0)", k.translations(), 6);
        check.due("17: translations() that differ at 0 alone", with("01", "11").translations(), 2);
    }

    private static void innerGroup() {
        KnotColours k = new KnotColours();
        check.due("18: innerGroup()", k.innerGroup(), 1);
        k.trivial(6);
        check.due("18: innerGroup() of trivial(6)", k.innerGroup(), 1);
        k.dihedral(4);
        check.due("18: innerGroup() of dihedral(4)", k.innerGroup(), 4);
        k.linear(5, 2);
        check.due("18: innerGroup() of linear(5, 2)", k.innerGroup(), 20);
        k.transpositions(4);
        check.due("18: innerGroup() of transpositions(4)", k.innerGroup(), 24);
        k.dihedral(3);
        check.due("18: innerGroup() of dihedral(3)", k.innerGroup(), 6);
        k.linear(6, 3);
        check.due("18: innerGroup() against axiom 2", k.innerGroup(), NONE);
        KnotColours all = with("111111", "022222", "233333", "344444", "455555", "500000");
        check.due("18: innerGroup() against axiom 2, late", all.innerGroup(), 720);
        check.due("18: innerGroup() again", all.innerGroup(), 720);
        check.due("18: innerGroup() of a late fault", with("000", "111", "220").innerGroup(), NONE);
    }

    private static void automorphisms() {
        KnotColours k = new KnotColours();
        check.due("19: automorphisms()", k.automorphisms(), 1);
        k.trivial(6);
        check.due("19: automorphisms() of trivial(6)", k.automorphisms(), 720);
        k.trivial(3);
        check.due("19: automorphisms() of trivial(3)", k.automorphisms(), 6);
        k.dihedral(6);
        check.due("19: automorphisms() of dihedral(6)", k.automorphisms(), 12);
        k.dihedral(5);
        check.due("19: automorphisms() of dihedral(5)", k.automorphisms(), 20);
        k.linear(4, 2);
        check.due("19: automorphisms() of linear(4, 2)", k.automorphisms(), 8);
        KnotColours all = with("111111", "022222", "233333", "344444", "455555", "500000");
        check.due("19: automorphisms() of one with the identity alone", all.automorphisms(), 1);
        check.due("19: automorphisms() of 0 * 0 = 1", with("100", "000", "000").automorphisms(), 1);
    }
}
