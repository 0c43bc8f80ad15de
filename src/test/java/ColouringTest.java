/** Promises 32 to 36: the colourings. */
public final class ColouringTest {
    private static final int NO_SUCH = -1;
    private static final int BAD_VALUE = -2;
    private static final int LOW = Integer.MIN_VALUE;
    private static final int HIGH = Integer.MAX_VALUE;

    private static final Check check = new Check();

    public static void main(String[] args) {
        colourings();
        signs();
        colouringsWith();
        colouringsAlike();
        colouringsUsing();
        colour();
        tenCrossings();
        largest();
        check.end();
    }

    private static void colourings() {
        KnotColours k = new KnotColours();
        check.due("32: colourings()", k.colourings(), 1);
        int[] byThree = {3, 9, 3, 3, 3, 9};
        int[] byFive = {5, 5, 25, 25, 5, 25};
        int[] byPairs = {6, 30, 6, 6, 12, 36};
        for (int which = 0; which < 6; which++) {
            k.standard(which);
            k.dihedral(3);
            check.due("32: colourings() of " + which + " by dihedral(3)", k.colourings(), byThree[which]);
            k.dihedral(5);
            check.due("32: colourings() of " + which + " by dihedral(5)", k.colourings(), byFive[which]);
            k.transpositions(4);
            check.due("32: colourings() of " + which + " by transpositions(4)", k.colourings(), byPairs[which]);
        }
    }

    private static void signs() {
        KnotColours k = new KnotColours();
        k.trivial(2);
        k.setProduct(0, 1, 1);
        // the products are 0 * 0 = 0, 0 * 1 = 1, 1 * 0 = 1, 1 * 1 = 1
        k.newDiagram(3);
        k.addCrossing(0, 1, 2, 1);
        check.due("32: o = i * c", k.colourings(), 4);
        check.due("32: o = i * c has 0, 0, 0", k.colour(0, 2), 0);
        check.due("32: o = i * c has 1, 0, 1", k.colour(2, 2), 1);
        check.due("33: o = i * c, in-arc 0", k.colouringsWith(1, 0), 2);
        check.due("33: o = i * c, out-arc 0", k.colouringsWith(2, 0), 1);
        k.removeCrossing(0);
        k.addCrossing(0, 1, 2, -1);
        check.due("32: i = o * c", k.colourings(), 4);
        check.due("33: i = o * c, in-arc 0", k.colouringsWith(1, 0), 1);
        check.due("33: i = o * c, out-arc 0", k.colouringsWith(2, 0), 2);
        check.due("36: i = o * c has 1, 1, 0", k.colour(2, 2), 0);
        KnotColours none = new KnotColours();
        none.trivial(2);
        none.setProduct(0, 0, 1);
        none.setProduct(1, 1, 0);
        none.addCrossing(0, 0, 0, 1);
        check.due("32: no colouring", none.colourings(), 0);
        check.due("33: no colouring", none.colouringsWith(0, 0), 0);
        check.due("34: no colouring", none.colouringsAlike(0, 0), 0);
        check.due("35: no colouring", none.colouringsUsing(1), 0);
        check.due("36: no colouring", none.colour(0, 0), NO_SUCH);
    }

    private static void colouringsWith() {
        KnotColours k = new KnotColours();
        k.dihedral(3);
        k.standard(1);
        check.due("33: colouringsWith(0, 0)", k.colouringsWith(0, 0), 3);
        check.due("33: colouringsWith(2, 1)", k.colouringsWith(2, 1), 3);
        k.setProduct(0, 0, 1);
        check.due("33: colouringsWith(1, 0)", k.colouringsWith(1, 0), 2);
        check.due("33: colouringsWith(1, 1)", k.colouringsWith(1, 1), 3);
        for (int wrong : new int[] {-1, 3, 6, 7, LOW, HIGH}) {
            check.due("33: colouringsWith(" + wrong + ", 0)", k.colouringsWith(wrong, 0), NO_SUCH);
            check.due("33: colouringsWith(0, " + wrong + ")", k.colouringsWith(0, wrong), NO_SUCH);
        }
        k.newDiagram(7);
        check.due("33: colouringsWith(6, 2)", k.colouringsWith(6, 2), 729);
        check.due("33: colouringsWith(6, 3)", k.colouringsWith(6, 3), NO_SUCH);
    }

    private static void colouringsAlike() {
        KnotColours k = new KnotColours();
        k.dihedral(3);
        k.standard(1);
        check.due("34: colouringsAlike(0, 1)", k.colouringsAlike(0, 1), 3);
        check.due("34: colouringsAlike(2, 2)", k.colouringsAlike(2, 2), 9);
        k.newDiagram(4);
        check.due("34: colouringsAlike(1, 3)", k.colouringsAlike(1, 3), 27);
        check.due("34: colouringsAlike(3, 1)", k.colouringsAlike(3, 1), 27);
        for (int wrong : new int[] {-1, 4, 7, LOW, HIGH}) {
            check.due("34: colouringsAlike(" + wrong + ", 0)", k.colouringsAlike(wrong, 0), NO_SUCH);
            check.due("34: colouringsAlike(0, " + wrong + ")", k.colouringsAlike(0, wrong), NO_SUCH);
        }
    }

    private static void colouringsUsing() {
        KnotColours k = new KnotColours();
        k.dihedral(3);
        k.standard(1);
        int[] trefoil = {3, 0, 6, 0, 0, 0};
        for (int colours = 1; colours <= 6; colours++) {
            check.due("35: colouringsUsing(" + colours + ")", k.colouringsUsing(colours), trefoil[colours - 1]);
        }
        k.trivial(4);
        k.newDiagram(3);
        int[] free = {4, 36, 24, 0, 0, 0};
        for (int colours = 1; colours <= 6; colours++) {
            check.due("35: colouringsUsing(" + colours + ") of 3 circles", k.colouringsUsing(colours), free[colours - 1]);
        }
        check.due("35: colouringsUsing(2) again", k.colouringsUsing(2), 36);
        for (int colours : new int[] {0, 7, -1, LOW, HIGH}) {
            check.due("35: colouringsUsing(" + colours + ")", k.colouringsUsing(colours), BAD_VALUE);
        }
    }

    private static void colour() {
        KnotColours k = new KnotColours();
        k.dihedral(3);
        k.standard(1);
        String[] inOrder = {"000", "012", "021", "102", "111", "120", "201", "210", "222"};
        for (int index = 0; index < inOrder.length; index++) {
            for (int arc = 0; arc < 3; arc++) {
                check.due("36: colour(" + index + ", " + arc + ")", k.colour(index, arc),
                        inOrder[index].charAt(arc) - '0');
            }
        }
        for (int index : new int[] {-1, 9, 279935, 279936, LOW, HIGH}) {
            check.due("36: colour(" + index + ", 0)", k.colour(index, 0), NO_SUCH);
        }
        for (int arc : new int[] {-1, 3, 7, LOW, HIGH}) {
            check.due("36: colour(0, " + arc + ")", k.colour(0, arc), NO_SUCH);
        }
        check.due("36: colour(0, 0) of a new object", new KnotColours().colour(0, 0), 0);
        check.due("36: colour(1, 0) of a new object", new KnotColours().colour(1, 0), NO_SUCH);
    }

    private static void tenCrossings() {
        KnotColours k = new KnotColours();
        k.dihedral(3);
        k.newDiagram(4);
        for (int crossing = 0; crossing < 9; crossing++) {
            k.addCrossing(0, 1, 2, 1);
        }
        check.due("32: nine crossings that demand the same", k.colourings(), 27);
        k.addCrossing(0, 0, 1, 1);
        check.due("32: a tenth crossing that demands more", k.colourings(), 9);
        check.due("33: colouringsWith(3, 2) of ten crossings", k.colouringsWith(3, 2), 3);
        check.due("34: colouringsAlike(0, 1) of ten crossings", k.colouringsAlike(0, 1), 9);
        check.due("35: colouringsUsing(2) of ten crossings", k.colouringsUsing(2), 6);
        check.due("36: colour(8, 2) of ten crossings", k.colour(8, 2), 2);
    }

    private static void largest() {
        KnotColours k = new KnotColours();
        k.trivial(6);
        k.newDiagram(7);
        check.due("32: colourings() of 7 circles", k.colourings(), 279936);
        check.due("33: colouringsWith(6, 5) of 7 circles", k.colouringsWith(6, 5), 46656);
        check.due("34: colouringsAlike(0, 6) of 7 circles", k.colouringsAlike(0, 6), 46656);
        int[] using = {6, 1890, 36120, 126000, 100800, 15120};
        for (int colours = 1; colours <= 6; colours++) {
            check.due("35: colouringsUsing(" + colours + ") of 7 circles", k.colouringsUsing(colours), using[colours - 1]);
        }
        // the digits of 123456 in base 6 are 2, 3, 5, 1, 3, 2, 0
        int[] digits = {2, 3, 5, 1, 3, 2, 0};
        for (int arc = 0; arc < 7; arc++) {
            check.due("36: colour(123456, " + arc + ")", k.colour(123456, arc), digits[arc]);
        }
        check.due("36: colour(279935, 6)", k.colour(279935, 6), 5);
        check.due("36: colour(279936, 6)", k.colour(279936, 6), NO_SUCH);
    }
}
