/** Promises 32 to 36 and the term colourings: each sentence that names a boundary case, by itself. */
public final class ColouringBoundsTest {
    private static final int NO_SUCH = Sentences.NO_SUCH;
    private static final int BAD_VALUE = Sentences.BAD_VALUE;
    /** Seven free arcs with six colours have the most colourings. */
    private static final int MOST = 6 * 6 * 6 * 6 * 6 * 6 * 6;

    private static final Sentences s = new Sentences();

    public static void main(String[] args) {
        demands();
        order();
        colourings();
        colouringsWith();
        colouringsAlike();
        colouringsUsing();
        colour();
        s.end();
    }

    private static KnotColours with(String rows, String parts) {
        KnotColours k = Sentences.withTable(rows);
        Sentences.makeDiagram(k, parts);
        return k;
    }

    /** The trefoil with three colours: 9 colourings. */
    private static void trefoil(KnotColours k) {
        k.dihedral(3);
        k.standard(1);
    }

    private static KnotColours trefoil() {
        KnotColours k = new KnotColours();
        trefoil(k);
        return k;
    }

    /** The most colourings. */
    private static KnotColours free() {
        KnotColours k = new KnotColours();
        k.trivial(6);
        k.newDiagram(7);
        return k;
    }

    /** No element is its own square, so that a crossing with one arc can't be coloured. */
    private static void none(KnotColours k) {
        Sentences.makeTable(k, "11 00");
        Sentences.makeDiagram(k, "1: 0,0,0+");
    }

    private static KnotColours none() {
        KnotColours k = new KnotColours();
        none(k);
        return k;
    }

    private static void demands() {
        s.test("terms: 'each crossing with the sign 1 demands o = i * c', of one arc thrice", () -> {
            s.due("colourings()", with("100 111 220", "1: 0,0,0+").colourings(), 1);
            s.due("colour(0, 0)", with("100 111 220", "1: 0,0,0+").colour(0, 0), 1);
        });
        s.test("terms: 'each crossing with the sign -1 demands i = o * c', of one arc thrice", () -> {
            s.due("colourings()", with("100 111 220", "1: 0,0,0-").colourings(), 1);
            s.due("colour(0, 0)", with("100 111 220", "1: 0,0,0-").colour(0, 0), 1);
        });
        s.test("terms: 'each crossing with the sign 1 demands o = i * c', not i = o * c", () -> {
            KnotColours k = with("01 11", "3: 0,1,2+");
            s.due("colourings()", k.colourings(), 4);
            s.due("colouringsWith(1, 0)", k.colouringsWith(1, 0), 2);
            s.due("colouringsWith(2, 0)", k.colouringsWith(2, 0), 1);
        });
        s.test("terms: 'each crossing with the sign -1 demands i = o * c', not o = i * c", () -> {
            KnotColours k = with("01 11", "3: 0,1,2-");
            s.due("colourings()", k.colourings(), 4);
            s.due("colouringsWith(1, 0)", k.colouringsWith(1, 0), 1);
            s.due("colouringsWith(2, 0)", k.colouringsWith(2, 0), 2);
        });
        s.test("terms: 'each crossing with the sign 1 demands o = i * c', the last of ten too", () -> {
            s.due("colourings() of nine", with("01 10", "2:" + Sentences.times(9, "0,0,0-")).colourings(), 2);
            s.due("colourings() of ten",
                    with("01 10", "2:" + Sentences.times(9, "0,0,0-") + " 1,1,1+").colourings(), 1);
        });
        s.test("terms: 'each crossing with the sign 1 demands o = i * c', where the highest arc is over, in and out", () -> {
            s.due("colourings()", with("00 11", "7: 6,0,1+").colourings(), 64);
            s.due("colourings()", with("00 11", "7: 0,6,1+").colourings(), 64);
            s.due("colourings()", with("00 11", "7: 0,1,6+").colourings(), 64);
        });
    }

    private static void order() {
        s.test("terms: 'ordered by the colour of arc 0, then by the colour of arc 1, and so on', the first ones", () -> {
            for (int arc = 0; arc < 7; arc++) {
                s.due("colour(0, " + arc + ")", free().colour(0, arc), 0);
                s.due("colour(1, " + arc + ")", free().colour(1, arc), arc == 6 ? 1 : 0);
                s.due("colour(6, " + arc + ")", free().colour(6, arc), arc == 5 ? 1 : 0);
            }
        });
        s.test("terms: 'ordered by the colour of arc 0, then by the colour of arc 1, and so on', the last ones", () -> {
            for (int arc = 0; arc < 7; arc++) {
                s.due("the last, " + arc, free().colour(MOST - 1, arc), 5);
                s.due("the last but one, " + arc, free().colour(MOST - 2, arc), arc == 6 ? 4 : 5);
                s.due("the last but six, " + arc, free().colour(MOST - 7, arc), arc == 5 ? 4 : 5);
            }
        });
        s.test("terms: 'ordered by the colour of arc 0', where another colour of arc 0 begins", () -> {
            s.due("colour(46655, 0)", free().colour(MOST / 6 - 1, 0), 0);
            s.due("colour(46656, 0)", free().colour(MOST / 6, 0), 1);
            s.due("colour(46655, 6)", free().colour(MOST / 6 - 1, 6), 5);
            s.due("colour(46656, 6)", free().colour(MOST / 6, 6), 0);
        });
    }

    private static void colourings() {
        s.test("32: 'Returns the number of colourings', none", () ->
            s.due("colourings()", none().colourings(), 0));
        s.test("32: 'Returns the number of colourings', of one element", () -> {
            s.due("colourings()", new KnotColours().colourings(), 1);
            s.due("colourings() of ten crossings", with("0", "7:" + Sentences.times(10, "6,5,4-")).colourings(), 1);
        });
        s.test("32: 'Returns the number of colourings', the greatest that can be", () ->
            s.due("colourings()", free().colourings(), MOST));
        s.test("32: 'Returns the number of colourings', each arc free without crossings", () -> {
            s.due("colourings() of one arc", with("000000 111111 222222 333333 444444 555555", "1:").colourings(), 6);
            s.due("colourings() of seven arcs", with("00 11", "7:").colourings(), 128);
        });
    }

    private static void colouringsWith() {
        s.test("33: 'Returns the number', none of no colourings", () -> {
            s.due("colouringsWith(0, 0)", none().colouringsWith(0, 0), 0);
            s.due("colouringsWith(0, 1)", none().colouringsWith(0, 1), 0);
        });
        s.test("33: 'Returns the number', all of one element", () ->
            s.due("colouringsWith(0, 0)", new KnotColours().colouringsWith(0, 0), 1));
        s.test("33: 'arc: an arc' and 'colour: an element', the lowest and the highest", () -> {
            s.due("colouringsWith(0, 0)", free().colouringsWith(0, 0), MOST / 6);
            s.due("colouringsWith(0, 5)", free().colouringsWith(0, 5), MOST / 6);
            s.due("colouringsWith(6, 0)", free().colouringsWith(6, 0), MOST / 6);
            s.due("colouringsWith(6, 5)", free().colouringsWith(6, 5), MOST / 6);
        });
        s.refused("33: 'NO_SUCH if there is no such arc or element', an arc too small", ColouringBoundsTest::trefoil,
                NO_SUCH, Sentences.below(0), (k, arc) -> k.colouringsWith(arc, 1));
        s.refused("33: 'NO_SUCH if there is no such arc or element', an arc too large", ColouringBoundsTest::trefoil,
                NO_SUCH, Sentences.above(2), (k, arc) -> k.colouringsWith(arc, 1));
        s.refused("33: 'NO_SUCH if there is no such arc or element', an element too small", ColouringBoundsTest::trefoil,
                NO_SUCH, Sentences.below(0), (k, colour) -> k.colouringsWith(1, colour));
        s.refused("33: 'NO_SUCH if there is no such arc or element', an element too large", ColouringBoundsTest::trefoil,
                NO_SUCH, Sentences.above(2), (k, colour) -> k.colouringsWith(1, colour));
        s.refused("33: 'NO_SUCH if there is no such arc or element', an arc that is an element only",
                k -> { k.trivial(6); k.newDiagram(2); },
                NO_SUCH, new int[] {2, 5}, (k, arc) -> k.colouringsWith(arc, 0));
        s.refused("33: 'NO_SUCH if there is no such arc or element', an element that is an arc only",
                k -> { k.trivial(2); k.newDiagram(7); },
                NO_SUCH, new int[] {2, 6}, (k, colour) -> k.colouringsWith(0, colour));
    }

    private static void colouringsAlike() {
        s.test("34: 'two arcs have the same colour', an arc and itself", () -> {
            s.due("colouringsAlike(0, 0)", free().colouringsAlike(0, 0), MOST);
            s.due("colouringsAlike(6, 6)", free().colouringsAlike(6, 6), MOST);
            s.due("colouringsAlike(0, 0) of one", new KnotColours().colouringsAlike(0, 0), 1);
        });
        s.test("34: 'Returns the number', none", () -> {
            s.due("colouringsAlike(0, 0)", none().colouringsAlike(0, 0), 0);
            s.due("colouringsAlike(0, 1)", with("11 00", "2: 0,0,1+").colouringsAlike(0, 1), 0);
        });
        s.test("34: 'first: an arc' and 'second: an arc', the lowest and the highest, in both orders", () -> {
            s.due("colouringsAlike(0, 6)", free().colouringsAlike(0, 6), MOST / 6);
            s.due("colouringsAlike(6, 0)", free().colouringsAlike(6, 0), MOST / 6);
        });
        s.refused("34: 'NO_SUCH if there is no such arc', first too small", ColouringBoundsTest::trefoil,
                NO_SUCH, Sentences.below(0), (k, arc) -> k.colouringsAlike(arc, 0));
        s.refused("34: 'NO_SUCH if there is no such arc', first too large", ColouringBoundsTest::trefoil,
                NO_SUCH, Sentences.above(2), (k, arc) -> k.colouringsAlike(arc, 0));
        s.refused("34: 'NO_SUCH if there is no such arc', second too small", ColouringBoundsTest::trefoil,
                NO_SUCH, Sentences.below(0), (k, arc) -> k.colouringsAlike(0, arc));
        s.refused("34: 'NO_SUCH if there is no such arc', second too large", ColouringBoundsTest::trefoil,
                NO_SUCH, Sentences.above(2), (k, arc) -> k.colouringsAlike(0, arc));
        s.refused("34: 'NO_SUCH if there is no such arc', both the same one", ColouringBoundsTest::trefoil,
                NO_SUCH, new int[] {-1, 3, 6}, (k, arc) -> k.colouringsAlike(arc, arc));
    }

    private static void colouringsUsing() {
        s.test("35: 'colours: 1 to 6', the least", () -> {
            s.due("colouringsUsing(1)", free().colouringsUsing(1), 6);
            s.due("colouringsUsing(1) of one", new KnotColours().colouringsUsing(1), 1);
        });
        s.test("35: 'colours: 1 to 6', the greatest", () -> {
            s.due("colouringsUsing(6)", free().colouringsUsing(6), 15120);
            KnotColours six = free();
            six.newDiagram(6);
            s.due("colouringsUsing(6) of six arcs", six.colouringsUsing(6), 720);
        });
        s.test("35: 'colours: 1 to 6', more than there are elements", () -> {
            s.due("colouringsUsing(3)", with("00 11", "7:").colouringsUsing(3), 0);
            s.due("colouringsUsing(6) of one", new KnotColours().colouringsUsing(6), 0);
        });
        s.test("35: 'colours: 1 to 6', more than there are arcs", () -> {
            KnotColours k = free();
            k.newDiagram(5);
            s.due("colouringsUsing(5)", k.colouringsUsing(5), 720);
            s.due("colouringsUsing(6)", k.colouringsUsing(6), 0);
        });
        s.test("35: 'exactly so many different colours', not fewer", () -> {
            s.due("colouringsUsing(2)", trefoil().colouringsUsing(2), 0);
            s.due("colouringsUsing(3)", trefoil().colouringsUsing(3), 6);
        });
        s.test("35: 'Returns the number', the same when it is asked again", () -> {
            KnotColours k = free();
            s.due("colouringsUsing(1)", k.colouringsUsing(1), 6);
            s.due("colouringsUsing(1) again", k.colouringsUsing(1), 6);
            s.due("colouringsUsing(6)", k.colouringsUsing(6), 15120);
            s.due("colouringsUsing(6) again", k.colouringsUsing(6), 15120);
        });
        s.test("35: 'Returns the number', none of no colourings", () -> {
            for (int colours = 1; colours <= 6; colours++) {
                s.due("colouringsUsing(" + colours + ")", none().colouringsUsing(colours), 0);
            }
        });
        s.refused("35: 'BAD_VALUE if colours is out of range', too small", ColouringBoundsTest::trefoil,
                BAD_VALUE, Sentences.below(1), KnotColours::colouringsUsing);
        s.refused("35: 'BAD_VALUE if colours is out of range', too large", ColouringBoundsTest::trefoil,
                BAD_VALUE, Sentences.above(6), KnotColours::colouringsUsing);
    }

    private static void colour() {
        s.test("36: '0 for the first colouring', the only one", () ->
            s.due("colour(0, 0)", new KnotColours().colour(0, 0), 0));
        s.test("36: 'Returns the colour', of the first and the last colouring", () -> {
            KnotColours k = trefoil();
            for (int arc = 0; arc < 3; arc++) {
                s.due("colour(0, " + arc + ")", k.colour(0, arc), 0);
                s.due("colour(8, " + arc + ")", k.colour(8, arc), 2);
            }
        });
        s.test("36: 'Returns the colour', of the lowest and the highest arc", () -> {
            s.due("colour(123456, 0)", free().colour(123456, 0), 2);
            s.due("colour(123456, 6)", free().colour(123456, 6), 0);
        });
        s.refused("36: 'NO_SUCH if there is no such colouring or arc', an index too small", ColouringBoundsTest::trefoil,
                NO_SUCH, Sentences.below(0), (k, index) -> k.colour(index, 0));
        s.refused("36: 'NO_SUCH if there is no such colouring or arc', an index too large", ColouringBoundsTest::trefoil,
                NO_SUCH, Sentences.above(8), (k, index) -> k.colour(index, 0));
        s.refused("36: 'NO_SUCH if there is no such colouring or arc', an index behind the most that can be",
                k -> { k.trivial(6); k.newDiagram(7); },
                NO_SUCH, Sentences.above(MOST - 1), (k, index) -> k.colour(index, 6));
        s.refused("36: 'NO_SUCH if there is no such colouring or arc', no colouring at all", ColouringBoundsTest::none,
                NO_SUCH, new int[] {-1, 0, 1}, (k, index) -> k.colour(index, 0));
        s.refused("36: 'NO_SUCH if there is no such colouring or arc', an arc too small", ColouringBoundsTest::trefoil,
                NO_SUCH, Sentences.below(0), (k, arc) -> k.colour(0, arc));
        s.refused("36: 'NO_SUCH if there is no such colouring or arc', an arc too large", ColouringBoundsTest::trefoil,
                NO_SUCH, Sentences.above(2), (k, arc) -> k.colour(0, arc));
        s.refused("36: 'NO_SUCH if there is no such colouring or arc', neither", ColouringBoundsTest::trefoil,
                NO_SUCH, new int[] {-1, 9}, (k, wrong) -> k.colour(wrong, wrong));
    }
}
