/** Promises 1 to 19 and the terms table and axioms: each sentence that names a boundary case, by itself. */
public final class TableBoundsTest {
    private static final int NO_SUCH = Sentences.NO_SUCH;
    private static final int BAD_VALUE = Sentences.BAD_VALUE;
    private static final int NOT_POSSIBLE = Sentences.NOT_POSSIBLE;
    private static final int NONE = Sentences.NONE;

    private static final String TRIVIAL_SIX = "000000 111111 222222 333333 444444 555555";
    private static final String DIHEDRAL_SIX = "024024 513513 402402 351351 240240 135135";
    /** The translation by 0 swaps two elements, all others are the cycle of six. */
    private static final String SWAP_AND_CYCLES = "111111 022222 233333 344444 455555 500000";

    private static final Sentences s = new Sentences();

    public static void main(String[] args) {
        newWorkbench();
        anyTable();
        trivial();
        dihedral();
        linear();
        transpositions();
        setProduct();
        invert();
        sizeAndProduct();
        quotient();
        violation();
        violationOfDistribution();
        reach();
        tableComponents();
        closure();
        generators();
        translationOrder();
        translations();
        innerGroup();
        automorphisms();
        s.end();
    }

    private static KnotColours with(String rows) {
        return Sentences.withTable(rows);
    }

    private static void table(KnotColours k, String rows) {
        s.same("the table", Sentences.tableOf(k), rows);
    }

    private static void newWorkbench() {
        s.test("terms: 'The table of a new workbench has the size 1'", () -> {
            s.due("size()", new KnotColours().size(), 1);
            table(new KnotColours(), "0");
        });
        s.test("1: 'Creates a workbench': one that shares nothing with another", () -> {
            KnotColours k = new KnotColours();
            KnotColours other = new KnotColours();
            other.dihedral(6);
            other.standard(3);
            other.type('0');
            s.due("digest()", k.digest(), new KnotColours().digest());
            s.due("clearText()", k.clearText(), 0);
            s.due("undo()", k.undo(), NOT_POSSIBLE);
        });
        s.test("'An object is used for at most 512 calls': the last of them is right", () -> {
            KnotColours k = new KnotColours();
            for (int call = 1; call < 512; call++) {
                k.dihedral(1 + call % 6);
            }
            s.due("size() as call 512", k.size(), 2);
        });
    }

    private static void anyTable() {
        s.test("terms: 'The table has a size n from 1 to 6', whatever is asked for", () -> {
            for (int number = -3; number <= 10; number++) {
                KnotColours k = new KnotColours();
                for (int factor = 0; factor <= 6; factor++) {
                    k.linear(number, factor);
                    inRange(k);
                }
                k.dihedral(number);
                inRange(k);
                k.transpositions(number);
                inRange(k);
                k.trivial(number);
                inRange(k);
            }
        });
        s.test("terms: 'gives a product x * y, which is an element, for any two elements', also behind a greater table", () -> {
            KnotColours k = new KnotColours();
            for (int size : new int[] {6, 1, 5, 2, 6, 3, 4}) {
                k.dihedral(6);
                k.linear(size, 5);
                productsAreElements(k);
            }
        });
        s.test("terms: 'A table need not satisfy any axiom'", () -> {
            KnotColours k = with("100 100 022");
            s.due("violation(1)", k.violation(1), 0);
            s.due("violation(2)", k.violation(2), 0);
            s.due("violation(3)", k.violation(3), 0);
            s.due("closure(1)", k.closure(1), 3);
            s.due("size()", k.size(), 3);
        });
        s.test("terms: 'bit x is 1 if x is in the set', for the lowest and the highest element", () -> {
            KnotColours k = with(TRIVIAL_SIX);
            s.due("reach(0)", k.reach(0), 1);
            s.due("reach(5)", k.reach(5), 32);
            s.due("closure(33)", k.closure(33), 33);
        });
    }

    private static void inRange(KnotColours k) {
        s.due("1 <= size() <= 6, size() " + k.size(), k.size() >= 1 && k.size() <= 6 ? 1 : 0, 1);
    }

    private static void productsAreElements(KnotColours k) {
        for (int x = 0; x < k.size(); x++) {
            for (int y = 0; y < k.size(); y++) {
                int product = k.product(x, y);
                s.due("product(" + x + ", " + y + ") is an element", product >= 0 && product < k.size() ? 1 : 0, 1);
            }
        }
    }

    private static void trivial() {
        s.test("2: 'size: 1 to 6', the least", () -> {
            KnotColours k = with(DIHEDRAL_SIX);
            s.due("trivial(1)", k.trivial(1), 6);
            table(k, "0");
        });
        s.test("2: 'size: 1 to 6', the greatest", () -> {
            KnotColours k = with(DIHEDRAL_SIX);
            k.trivial(1);
            s.due("trivial(6)", k.trivial(6), 1);
            table(k, TRIVIAL_SIX);
        });
        s.test("2: 'Returns the previous size', not the new one", () -> {
            KnotColours k = new KnotColours();
            s.due("trivial(4)", k.trivial(4), 1);
            s.due("trivial(2)", k.trivial(2), 4);
        });
        s.test("2: 'Returns the previous size', if the size stays", () -> {
            KnotColours k = with(DIHEDRAL_SIX);
            s.due("trivial(6)", k.trivial(6), 6);
            table(k, TRIVIAL_SIX);
        });
        s.refused("2: 'BAD_VALUE if size is out of range', too small", k -> k.dihedral(5),
                BAD_VALUE, Sentences.below(1), KnotColours::trivial);
        s.refused("2: 'BAD_VALUE if size is out of range', too large", k -> k.dihedral(5),
                BAD_VALUE, Sentences.above(6), KnotColours::trivial);
    }

    private static void dihedral() {
        s.test("3: 'size: 1 to 6', the least", () -> {
            KnotColours k = with(TRIVIAL_SIX);
            s.due("dihedral(1)", k.dihedral(1), 6);
            table(k, "0");
        });
        s.test("3: 'size: 1 to 6', the greatest", () -> {
            KnotColours k = new KnotColours();
            s.due("dihedral(6)", k.dihedral(6), 1);
            table(k, DIHEDRAL_SIX);
        });
        s.test("3: 'modulo size, from 0 to size - 1', where 2 * y - x is below 0", () -> {
            KnotColours k = new KnotColours();
            k.dihedral(5);
            s.due("product(1, 0), of -1", k.product(1, 0), 4);
            s.due("product(4, 0), of -4", k.product(4, 0), 1);
            s.due("product(3, 1), of -1", k.product(3, 1), 4);
        });
        s.test("3: 'modulo size, from 0 to size - 1', where 2 * y - x is size or more", () -> {
            KnotColours k = new KnotColours();
            k.dihedral(5);
            s.due("product(1, 3), of 5", k.product(1, 3), 0);
            s.due("product(0, 4), of 8", k.product(0, 4), 3);
            s.due("product(0, 3), of 6", k.product(0, 3), 1);
        });
        s.test("3: 'modulo size, from 0 to size - 1', where 2 * y - x is 0 and size - 1", () -> {
            KnotColours k = new KnotColours();
            k.dihedral(5);
            s.due("product(4, 2), of 0", k.product(4, 2), 0);
            s.due("product(0, 2), of 4", k.product(0, 2), 4);
        });
        s.test("3: 'Returns the previous size', if the size stays", () -> {
            KnotColours k = with(TRIVIAL_SIX);
            s.due("dihedral(6)", k.dihedral(6), 6);
        });
        s.refused("3: 'BAD_VALUE if size is out of range', too small", k -> k.linear(5, 2),
                BAD_VALUE, Sentences.below(1), KnotColours::dihedral);
        s.refused("3: 'BAD_VALUE if size is out of range', too large", k -> k.linear(5, 2),
                BAD_VALUE, Sentences.above(6), KnotColours::dihedral);
    }

    private static void linear() {
        s.test("4: 'size: 1 to 6', the least, with each factor", () -> {
            for (int factor = 0; factor <= 5; factor++) {
                KnotColours k = with(TRIVIAL_SIX);
                s.due("linear(1, " + factor + ")", k.linear(1, factor), 6);
                table(k, "0");
            }
        });
        s.test("4: 'size: 1 to 6', the greatest", () -> {
            KnotColours k = new KnotColours();
            s.due("linear(6, 2)", k.linear(6, 2), 1);
            table(k, "054321 210543 432105 054321 210543 432105");
        });
        s.test("4: 'factor: 0 to 5', the least", () -> {
            KnotColours k = new KnotColours();
            s.due("linear(3, 0)", k.linear(3, 0), 1);
            table(k, "012 012 012");
        });
        s.test("4: 'factor: 0 to 5', the greatest", () -> {
            KnotColours k = new KnotColours();
            s.due("linear(6, 5)", k.linear(6, 5), 1);
            table(k, DIHEDRAL_SIX);
        });
        s.test("4: 'factor: 0 to 5', the size itself and more", () -> {
            KnotColours k = new KnotColours();
            s.due("linear(2, 2)", k.linear(2, 2), 1);
            table(k, "01 01");
            s.due("linear(3, 4)", k.linear(3, 4), 2);
            table(k, "000 111 222");
            s.due("linear(3, 5)", k.linear(3, 5), 3);
            table(k, "021 210 102");
        });
        s.test("4: 'it need not have an inverse modulo size'", () -> {
            KnotColours k = new KnotColours();
            s.due("linear(6, 3)", k.linear(6, 3), 1);
            table(k, "042042 315315 042042 315315 042042 315315");
            s.due("linear(4, 2)", k.linear(4, 2), 6);
            table(k, "0321 2103 0321 2103");
        });
        s.test("4: 'modulo size, from 0 to size - 1', at the lowest and the highest sum", () -> {
            KnotColours k = new KnotColours();
            k.linear(6, 5);
            s.due("product(0, 5), of -20", k.product(0, 5), 4);
            s.due("product(5, 0), of 25", k.product(5, 0), 1);
            k.linear(4, 5);
            s.due("product(0, 1), of -4", k.product(0, 1), 0);
            s.due("product(0, 3), of -12", k.product(0, 3), 0);
        });
        s.test("4: 'Returns the previous size', if the size stays", () -> {
            KnotColours k = with(TRIVIAL_SIX);
            s.due("linear(6, 1)", k.linear(6, 1), 6);
        });
        s.refused("4: 'BAD_VALUE if an argument is out of range', the size too small", k -> k.dihedral(5),
                BAD_VALUE, Sentences.below(1), (k, size) -> k.linear(size, 2));
        s.refused("4: 'BAD_VALUE if an argument is out of range', the size too large", k -> k.dihedral(5),
                BAD_VALUE, Sentences.above(6), (k, size) -> k.linear(size, 2));
        s.refused("4: 'BAD_VALUE if an argument is out of range', the factor too small", k -> k.dihedral(5),
                BAD_VALUE, Sentences.below(0), (k, factor) -> k.linear(6, factor));
        s.refused("4: 'BAD_VALUE if an argument is out of range', the factor too large", k -> k.dihedral(5),
                BAD_VALUE, Sentences.above(5), (k, factor) -> k.linear(6, factor));
        s.refused("4: 'BAD_VALUE if an argument is out of range', both", k -> k.dihedral(5),
                BAD_VALUE, new int[] {-1, 7, 0x10000}, (k, wrong) -> k.linear(wrong, wrong));
    }

    private static void transpositions() {
        s.test("5: 'points: 2 to 4', the least", () -> {
            KnotColours k = with(TRIVIAL_SIX);
            s.due("transpositions(2)", k.transpositions(2), 1);
            table(k, "0");
        });
        s.test("5: 'points: 2 to 4', the greatest", () -> {
            KnotColours k = new KnotColours();
            s.due("transpositions(4)", k.transpositions(4), 6);
            table(k, "034120 315012 452201 103354 240543 521435");
        });
        s.test("5: 'Returns the new size', not the previous one", () -> {
            KnotColours k = with(TRIVIAL_SIX);
            s.due("transpositions(3)", k.transpositions(3), 3);
            s.due("transpositions(4)", k.transpositions(4), 6);
        });
        s.test("5: 'each point of y is replaced by the other point of y', if x and y are the same pair", () -> {
            KnotColours k = new KnotColours();
            k.transpositions(4);
            for (int x = 0; x < 6; x++) {
                s.due("product(" + x + ", " + x + ")", k.product(x, x), x);
            }
        });
        s.test("5: 'each point of y is replaced by the other point of y', if x and y share no point", () -> {
            KnotColours k = new KnotColours();
            k.transpositions(4);
            for (int x = 0; x < 6; x++) {
                s.due("product(" + x + ", " + (5 - x) + ")", k.product(x, 5 - x), x);
            }
        });
        s.refused("5: 'BAD_VALUE if points is out of range', too small", k -> k.dihedral(5),
                BAD_VALUE, Sentences.below(2), KnotColours::transpositions);
        s.refused("5: 'BAD_VALUE if points is out of range', too large", k -> k.dihedral(5),
                BAD_VALUE, Sentences.above(4), KnotColours::transpositions);
    }

    private static void setProduct() {
        s.test("6: 'x: an element', 'y: an element' and 'the new product x * y, an element', the lowest", () -> {
            KnotColours k = with("11 11");
            s.due("setProduct(0, 0, 0)", k.setProduct(0, 0, 0), 1);
            table(k, "01 11");
        });
        s.test("6: 'x: an element', 'y: an element' and 'the new product x * y, an element', the highest", () -> {
            KnotColours k = with(TRIVIAL_SIX);
            s.due("setProduct(0, 5, 5)", k.setProduct(0, 5, 5), 0);
            s.due("setProduct(5, 5, 0)", k.setProduct(5, 5, 0), 5);
            s.due("setProduct(5, 0, 0)", k.setProduct(5, 0, 0), 5);
            table(k, "000005 111111 222222 333333 444444 055550");
        });
        s.test("6: 'Changes one product', the only one", () -> {
            KnotColours k = new KnotColours();
            s.due("setProduct(0, 0, 0)", k.setProduct(0, 0, 0), 0);
            table(k, "0");
            s.due("undo()", k.undo(), 0);
        });
        s.test("6: 'Returns the previous product', not the new one", () -> {
            KnotColours k = with(DIHEDRAL_SIX);
            s.due("setProduct(5, 0, 0)", k.setProduct(5, 0, 0), 1);
            s.due("setProduct(5, 0, 4)", k.setProduct(5, 0, 4), 0);
        });
        s.test("6: 'Returns the previous product', if it is the new one too", () -> {
            KnotColours k = with(DIHEDRAL_SIX);
            s.due("setProduct(5, 0, 1)", k.setProduct(5, 0, 1), 1);
            table(k, DIHEDRAL_SIX);
        });
        s.refused("6: 'NO_SUCH if there is no such element x, y or product', x too small", k -> k.dihedral(5),
                NO_SUCH, Sentences.below(0), (k, x) -> k.setProduct(x, 0, 1));
        s.refused("6: 'NO_SUCH if there is no such element x, y or product', x too large", k -> k.dihedral(5),
                NO_SUCH, Sentences.above(4), (k, x) -> k.setProduct(x, 0, 1));
        s.refused("6: 'NO_SUCH if there is no such element x, y or product', y too small", k -> k.dihedral(5),
                NO_SUCH, Sentences.below(0), (k, y) -> k.setProduct(1, y, 0));
        s.refused("6: 'NO_SUCH if there is no such element x, y or product', y too large", k -> k.dihedral(5),
                NO_SUCH, Sentences.above(4), (k, y) -> k.setProduct(1, y, 0));
        s.refused("6: 'NO_SUCH if there is no such element x, y or product', the product too small", k -> k.dihedral(5),
                NO_SUCH, Sentences.below(0), (k, product) -> k.setProduct(1, 0, product));
        s.refused("6: 'NO_SUCH if there is no such element x, y or product', the product too large", k -> k.dihedral(5),
                NO_SUCH, Sentences.above(4), (k, product) -> k.setProduct(1, 0, product));
        s.refused("6: 'NO_SUCH if there is no such element x, y or product', one of an earlier greater table",
                k -> { k.trivial(6); k.dihedral(3); },
                NO_SUCH, new int[] {3, 4, 5}, (k, x) -> k.setProduct(x, x, x));
    }

    private static void invert() {
        s.test("7: 'Returns the number of products that become different', the least", () -> {
            KnotColours k = with(DIHEDRAL_SIX);
            s.due("invert()", k.invert(), 0);
            table(k, DIHEDRAL_SIX);
        });
        s.test("7: 'Returns the number of products that become different', the greatest", () -> {
            KnotColours k = with("111111 222222 333333 444444 555555 000000");
            s.due("invert()", k.invert(), 36);
            table(k, "555555 000000 111111 222222 333333 444444");
        });
        s.test("7: 'Returns the number of products that become different', of one element", () -> {
            KnotColours k = new KnotColours();
            s.due("invert()", k.invert(), 0);
            table(k, "0");
        });
        s.test("7: 'Undoable', also if no product becomes different", () -> {
            KnotColours k = new KnotColours();
            k.invert();
            s.due("undo()", k.undo(), 0);
        });
        s.test("7: possible with axiom 2 alone", () -> {
            KnotColours k = with("100 211 022");
            s.due("violation(1)", k.violation(1), 0);
            s.due("violation(3)", k.violation(3), 0);
            s.due("invert()", k.invert(), 3);
            table(k, "200 011 122");
        });
        s.refused("7: 'NOT_POSSIBLE if axiom 2 does not hold', for the first element alone",
                k -> Sentences.makeTable(k, "000 011 222"), NOT_POSSIBLE, KnotColours::invert);
        s.refused("7: 'NOT_POSSIBLE if axiom 2 does not hold', for the last element alone",
                k -> Sentences.makeTable(k, "000 111 220"), NOT_POSSIBLE, KnotColours::invert);
        s.refused("7: 'NOT_POSSIBLE if axiom 2 does not hold', for all elements",
                k -> k.linear(6, 0), NOT_POSSIBLE, KnotColours::invert);
    }

    private static void sizeAndProduct() {
        s.test("8: 'Returns the size of the table', the least and the greatest", () -> {
            KnotColours k = new KnotColours();
            s.due("size()", k.size(), 1);
            k.trivial(6);
            s.due("size() of six", k.size(), 6);
            k.undo();
            s.due("size() after undo()", k.size(), 1);
        });
        s.test("9: 'x: an element' and 'y: an element', the lowest and the highest", () -> {
            KnotColours k = with("543210 000000 111111 222222 333333 012345");
            s.due("product(0, 0)", k.product(0, 0), 5);
            s.due("product(0, 5)", k.product(0, 5), 0);
            s.due("product(5, 0)", k.product(5, 0), 0);
            s.due("product(5, 5)", k.product(5, 5), 5);
        });
        s.refused("9: 'NO_SUCH if there is no such element', x too small", k -> k.dihedral(5),
                NO_SUCH, Sentences.below(0), (k, x) -> k.product(x, 4));
        s.refused("9: 'NO_SUCH if there is no such element', x too large", k -> k.dihedral(5),
                NO_SUCH, Sentences.above(4), (k, x) -> k.product(x, 0));
        s.refused("9: 'NO_SUCH if there is no such element', y too small", k -> k.dihedral(5),
                NO_SUCH, Sentences.below(0), (k, y) -> k.product(4, y));
        s.refused("9: 'NO_SUCH if there is no such element', y too large", k -> k.dihedral(5),
                NO_SUCH, Sentences.above(4), (k, y) -> k.product(0, y));
        s.refused("9: 'NO_SUCH if there is no such element', one of an earlier greater table",
                k -> { k.trivial(6); k.dihedral(3); }, NO_SUCH, new int[] {3, 4, 5}, (k, x) -> k.product(x, x));
    }

    private static void quotient() {
        s.test("10: 'the lowest element z with z * y = x', if each element is one", () -> {
            KnotColours k = new KnotColours();
            k.linear(6, 0);
            s.due("quotient(0, 0)", k.quotient(0, 0), 0);
            s.due("quotient(5, 5)", k.quotient(5, 5), 0);
        });
        s.test("10: 'the lowest element z with z * y = x', if the last element alone is one", () -> {
            KnotColours k = with("000000 000000 000000 000000 000000 500003");
            s.due("quotient(5, 0)", k.quotient(5, 0), 5);
            s.due("quotient(3, 5)", k.quotient(3, 5), 5);
        });
        s.test("10: 'the lowest element z with z * y = x', of one element", () ->
            s.due("quotient(0, 0)", new KnotColours().quotient(0, 0), 0));
        s.test("10: 'NONE if there is no such z'", () -> {
            KnotColours k = new KnotColours();
            k.linear(6, 0);
            s.due("quotient(5, 0)", k.quotient(5, 0), NONE);
            s.due("quotient(0, 5)", k.quotient(0, 5), NONE);
        });
        s.refused("10: 'NO_SUCH if there is no such element x or y', x too small", k -> k.linear(5, 2),
                NO_SUCH, Sentences.below(0), (k, x) -> k.quotient(x, 4));
        s.refused("10: 'NO_SUCH if there is no such element x or y', x too large", k -> k.linear(5, 2),
                NO_SUCH, Sentences.above(4), (k, x) -> k.quotient(x, 0));
        s.refused("10: 'NO_SUCH if there is no such element x or y', y too small", k -> k.linear(5, 2),
                NO_SUCH, Sentences.below(0), (k, y) -> k.quotient(4, y));
        s.refused("10: 'NO_SUCH if there is no such element x or y', y too large", k -> k.linear(5, 2),
                NO_SUCH, Sentences.above(4), (k, y) -> k.quotient(0, y));
    }

    private static void violation() {
        s.test("11: 'axiom: 1 to 3', all of one element", () -> {
            KnotColours k = new KnotColours();
            for (int axiom = 1; axiom <= 3; axiom++) {
                s.due("violation(" + axiom + ")", k.violation(axiom), NONE);
            }
        });
        s.test("11: 'for axiom 1 the lowest x', the first, the last and one of several", () -> {
            s.due("violation(1)", with("100000 111111 222222 333333 444444 555555").violation(1), 0);
            s.due("violation(1)", with("000000 111111 222222 333333 444444 555550").violation(1), 5);
            s.due("violation(1)", with("000000 111111 220222 333333 444444 555550").violation(1), 2);
        });
        s.test("11: 'for axiom 2 the lowest y', the first, the last and one of several", () -> {
            s.due("violation(2)", with("000000 111111 222222 333333 444444 055555").violation(2), 0);
            s.due("violation(2)", with("000000 111111 222222 333333 444444 555550").violation(2), 5);
            s.due("violation(2)", with("000000 111111 222222 333333 444444 550550").violation(2), 2);
        });
        s.test("terms: 'no two elements x have the same product x * y', neighbours and the ends", () -> {
            s.due("violation(2)", with("000 100 222").violation(2), 1);
            s.due("violation(2)", with("000 111 220").violation(2), 2);
            s.due("violation(2)", with("001 110 222").violation(2), NONE);
        });
        s.test("11: 'NONE if the axiom holds', each of them", () -> {
            KnotColours k = new KnotColours();
            k.transpositions(4);
            for (int axiom = 1; axiom <= 3; axiom++) {
                s.due("violation(" + axiom + ")", k.violation(axiom), NONE);
            }
        });
        s.refused("11: 'NO_SUCH if there is no such axiom', too small", k -> Sentences.makeTable(k, "111 000 022"),
                NO_SUCH, Sentences.below(1), KnotColours::violation);
        s.refused("11: 'NO_SUCH if there is no such axiom', too large", k -> Sentences.makeTable(k, "111 000 022"),
                NO_SUCH, Sentences.above(3), KnotColours::violation);
    }

    private static void violationOfDistribution() {
        s.test("11: 'for axiom 3 the lowest 100 * x + 10 * y + z', the lowest that can be", () ->
            s.due("violation(3)", with("10 10").violation(3), 0));
        s.test("11: 'for axiom 3 the lowest 100 * x + 10 * y + z', the highest that can be", () ->
            s.due("violation(3)", with("000000 000000 000000 000000 000001 000004").violation(3), 555));
        s.test("11: 'for axiom 3 the lowest 100 * x + 10 * y + z', x before y before z", () -> {
            s.due("violation(3), of 122 and 210 alone", with("000 001 200").violation(3), 122);
            s.due("violation(3), of 12, 20, 102 and more", with("002 001 102").violation(3), 12);
        });
    }

    private static void reach() {
        s.test("12: 'any number of times, also none'", () -> {
            KnotColours k = with("111 111 111");
            s.due("reach(0), none and once", k.reach(0), 3);
            s.due("reach(2), none and once", k.reach(2), 6);
        });
        s.test("12: 'any number of times', five times upwards and downwards", () -> {
            s.due("reach(0)", with("111111 222222 333333 444444 555555 555555").reach(0), 63);
            s.due("reach(5)", with("000000 000000 111111 222222 333333 444444").reach(5), 63);
            s.due("reach(0)", with("555555 111111 111111 222222 333333 444444").reach(0), 63);
        });
        s.test("12: 'by multiplying by elements on the right', not the other way", () -> {
            KnotColours k = with("000000 000000 111111 222222 333333 444444");
            s.due("reach(0)", k.reach(0), 1);
            s.due("reach(2)", k.reach(2), 7);
        });
        s.test("12: 'by multiplying by elements on the right', by the first or the last alone", () -> {
            s.due("reach(0)", with("100 111 222").reach(0), 3);
            s.due("reach(0)", with("001 111 222").reach(0), 3);
        });
        s.test("12: 'x: an element', the only one, the lowest and the highest", () -> {
            s.due("reach(0) of one", new KnotColours().reach(0), 1);
            s.due("reach(0)", with(DIHEDRAL_SIX).reach(0), 21);
            s.due("reach(5)", with(DIHEDRAL_SIX).reach(5), 42);
        });
        s.refused("12: 'NO_SUCH if there is no such element', too small", k -> k.dihedral(5),
                NO_SUCH, Sentences.below(0), KnotColours::reach);
        s.refused("12: 'NO_SUCH if there is no such element', too large", k -> k.dihedral(5),
                NO_SUCH, Sentences.above(4), KnotColours::reach);
    }

    private static void tableComponents() {
        s.test("13: 'the number of components of the table', the least", () -> {
            s.due("tableComponents() of one", new KnotColours().tableComponents(), 1);
            s.due("tableComponents() of a cycle", with(SWAP_AND_CYCLES).tableComponents(), 1);
        });
        s.test("13: 'the number of components of the table', the greatest", () ->
            s.due("tableComponents()", with(TRIVIAL_SIX).tableComponents(), 6));
        s.test("13: 'x and x * y are always in the same component', by one product alone", () -> {
            s.due("tableComponents()", with("000005 111111 222222 333333 444444 555555").tableComponents(), 5);
            s.due("tableComponents()", with("000000 111111 222222 333333 444444 055555").tableComponents(), 5);
        });
        s.test("13: 'elements are in the same component only because of this', not because of y", () ->
            s.due("tableComponents()", with("0330 2112 1221 3003").tableComponents(), 2));
    }

    private static void closure() {
        s.test("14: 'the empty set is closed'", () -> {
            s.due("closure(0) of one", new KnotColours().closure(0), 0);
            s.due("closure(0) of six", with(SWAP_AND_CYCLES).closure(0), 0);
        });
        s.test("14: 'set: a set of elements', the set of all", () -> {
            s.due("closure(1) of one", new KnotColours().closure(1), 1);
            s.due("closure(63) of six", with(TRIVIAL_SIX).closure(63), 63);
        });
        s.test("terms: 'contains x * y for all x and y in it', also x * x", () -> {
            s.due("closure(1)", with("100 111 222").closure(1), 3);
            s.due("closure(4)", with("000 111 220").closure(4), 5);
        });
        s.test("terms: 'the smallest closed set that contains it', by five products one behind the other", () -> {
            s.due("closure(1)", with("555555 111111 111111 222222 333333 444444").closure(1), 63);
            s.due("closure(32)", with("000000 000000 111111 222222 333333 444444").closure(32), 63);
        });
        s.test("terms: 'the smallest closed set that contains it', without products by elements outside", () ->
            s.due("closure(3)", with("0023 1132 2222 3333").closure(3), 3));
        s.refused("14: 'BAD_VALUE if set is negative or contains a number that is not an element', negative", k -> k.dihedral(6),
                BAD_VALUE, Sentences.below(0), KnotColours::closure);
        s.refused("14: 'BAD_VALUE if set is negative or contains a number that is not an element', that number alone", k -> k.dihedral(3),
                BAD_VALUE, new int[] {8, 16, 32, 64, 1 << 30}, KnotColours::closure);
        s.refused("14: 'BAD_VALUE if set is negative or contains a number that is not an element', beside elements", k -> k.dihedral(3),
                BAD_VALUE, new int[] {9, 15, 63, 8 + 2, 65536 + 7, Integer.MAX_VALUE}, KnotColours::closure);
        s.refused("14: 'BAD_VALUE if set is negative or contains a number that is not an element', of six elements", k -> k.dihedral(6),
                BAD_VALUE, new int[] {64, 65, 127, 128, 256, Integer.MAX_VALUE}, KnotColours::closure);
        s.refused("14: 'BAD_VALUE if set is negative or contains a number that is not an element', of one element",
                k -> k.trivial(1), BAD_VALUE, new int[] {2, 3, 32}, KnotColours::closure);
    }

    private static void generators() {
        s.test("15: 'the least number of elements', the least that can be", () -> {
            s.due("generators() of one", new KnotColours().generators(), 1);
            s.due("generators() of a cycle", with(SWAP_AND_CYCLES).generators(), 1);
        });
        s.test("15: 'the least number of elements', the greatest that can be", () ->
            s.due("generators()", with(TRIVIAL_SIX).generators(), 6));
        s.test("15: 'the least number of elements', if only the highest elements make all", () -> {
            s.due("generators()", with("000000 000000 111111 222222 333333 444444").generators(), 1);
            s.due("generators()", with("000000 111111 000000 111111 222222 333333").generators(), 2);
        });
    }

    private static void translationOrder() {
        s.test("16: 'the least k of at least 1', if multiplying changes nothing", () -> {
            s.due("translationOrder(0) of one", new KnotColours().translationOrder(0), 1);
            s.due("translationOrder(5)", with(TRIVIAL_SIX).translationOrder(5), 1);
        });
        s.test("16: 'takes each element to itself', the first that does so at last", () -> {
            s.due("translationOrder(1), a cycle of 6", with(SWAP_AND_CYCLES).translationOrder(1), 6);
            s.due("translationOrder(0), a swap of two", with(SWAP_AND_CYCLES).translationOrder(0), 2);
            s.due("translationOrder(0), cycles of 3 and 2", with("10000 21111 02222 43333 34444").translationOrder(0), 6);
            s.due("translationOrder(0), cycles of 2 and 3", with("10000 01111 32222 43333 24444").translationOrder(0), 6);
        });
        s.test("16: 'y: an element', the lowest and the highest", () -> {
            KnotColours k = with("100000 011112 222221 333333 444444 555555");
            s.due("translationOrder(0)", k.translationOrder(0), 2);
            s.due("translationOrder(4)", k.translationOrder(4), 1);
            s.due("translationOrder(5)", k.translationOrder(5), 2);
        });
        s.test("16: 'NONE if the translation is not a permutation', that one alone", () -> {
            KnotColours k = with("001 100 222");
            s.due("translationOrder(0)", k.translationOrder(0), 1);
            s.due("translationOrder(1)", k.translationOrder(1), NONE);
            s.due("translationOrder(2)", k.translationOrder(2), 2);
        });
        s.refused("16: 'NO_SUCH if there is no such element', too small", k -> k.linear(6, 2),
                NO_SUCH, Sentences.below(0), KnotColours::translationOrder);
        s.refused("16: 'NO_SUCH if there is no such element', too large", k -> k.linear(6, 2),
                NO_SUCH, Sentences.above(5), KnotColours::translationOrder);
    }

    private static void translations() {
        s.test("17: 'the number of different translations', the least", () -> {
            s.due("translations() of one", new KnotColours().translations(), 1);
            s.due("translations() of six that are the same", with(TRIVIAL_SIX).translations(), 1);
        });
        s.test("17: 'the number of different translations', the greatest", () -> {
            KnotColours k = new KnotColours();
            k.linear(6, 0);
            s.due("translations()", k.translations(), 6);
        });
        s.test("17: 'different', at the first or the last element alone", () -> {
            s.due("translations()", with("001 111 222").translations(), 2);
            s.due("translations()", with("000 111 221").translations(), 2);
        });
        s.test("17: 'different', the first and the last the same", () ->
            s.due("translations()", with("010 111 222").translations(), 2));
    }

    private static void innerGroup() {
        s.test("18: 'the identity counts as the composition of no translations'", () -> {
            s.due("innerGroup() of one", new KnotColours().innerGroup(), 1);
            s.due("innerGroup() of no identity", with("11 00").innerGroup(), 2);
            s.due("innerGroup() of the identity alone", with(TRIVIAL_SIX).innerGroup(), 1);
        });
        s.test("18: 'Returns the number, at most 720', the greatest", () ->
            s.due("innerGroup()", with(SWAP_AND_CYCLES).innerGroup(), 720));
        s.test("18: 'compositions of translations', all with a last one that differs", () ->
            s.due("innerGroup()", with("000001 111110 222222 333333 444444 555555").innerGroup(), 2));
        s.refused("18: 'NONE if axiom 2 does not hold', for the first element alone",
                k -> Sentences.makeTable(k, "000 011 222"), NONE, KnotColours::innerGroup);
        s.refused("18: 'NONE if axiom 2 does not hold', for the last element alone",
                k -> Sentences.makeTable(k, "000 111 220"), NONE, KnotColours::innerGroup);
        s.test("18: possible with axiom 2 alone", () -> {
            KnotColours k = with("100 211 022");
            s.due("violation(1)", k.violation(1), 0);
            s.due("innerGroup()", k.innerGroup(), 3);
        });
    }

    private static void automorphisms() {
        s.test("19: 'the number of permutations', the least", () -> {
            s.due("automorphisms() of one", new KnotColours().automorphisms(), 1);
            s.due("automorphisms() of six", with(SWAP_AND_CYCLES).automorphisms(), 1);
        });
        s.test("19: 'the number of permutations', the greatest", () ->
            s.due("automorphisms()", with(TRIVIAL_SIX).automorphisms(), 720));
        s.test("19: 'p(x * y) = p(x) * p(y) for all x and y', broken by the first or the last product alone", () -> {
            s.due("automorphisms()", with("100000 111111 222222 333333 444444 555555").automorphisms(), 24);
            s.due("automorphisms()", with("000000 111111 222222 333333 444444 555554").automorphisms(), 24);
        });
        s.test("19: 'p(x * y) = p(x) * p(y)', without any axiom", () ->
            s.due("automorphisms()", with("111 000 022").automorphisms(), 1));
    }
}
