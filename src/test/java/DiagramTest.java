/** Promises 20 to 31: the diagrams. */
public final class DiagramTest {
    private static final int NO_SUCH = -1;
    private static final int BAD_VALUE = -2;
    private static final int LIMIT = -4;
    private static final int NONE = -6;
    private static final int LOW = Integer.MIN_VALUE;
    private static final int HIGH = Integer.MAX_VALUE;

    private static final Check check = new Check();

    public static void main(String[] args) {
        newDiagram();
        standard();
        addCrossing();
        removeCrossing();
        kink();
        poke();
        crossing();
        components();
        writhe();
        linking();
        check.end();
    }

    /** Compares the diagram with crossings that are each written as in the document: "0,1,2+". */
    private static void diagram(String promise, KnotColours k, int arcs, String... crossings) {
        check.due(promise + " arcs()", k.arcs(), arcs);
        check.due(promise + " crossings()", k.crossings(), crossings.length);
        for (int c = 0; c < crossings.length; c++) {
            for (int part = 0; part < 3; part++) {
                check.due(promise + " crossing(" + c + ", " + part + ")", k.crossing(c, part),
                        crossings[c].charAt(2 * part) - '0');
            }
            check.due(promise + " crossing(" + c + ", 3)", k.crossing(c, 3),
                    crossings[c].charAt(5) == '+' ? 1 : -1);
        }
    }

    private static KnotColours with(int arcs, String... crossings) {
        KnotColours k = new KnotColours();
        k.newDiagram(arcs);
        for (String c : crossings) {
            k.addCrossing(c.charAt(0) - '0', c.charAt(2) - '0', c.charAt(4) - '0', c.charAt(5) == '+' ? 1 : -1);
        }
        return k;
    }

    private static void newDiagram() {
        KnotColours k = new KnotColours();
        check.due("20: newDiagram(7)", k.newDiagram(7), 1);
        diagram("20:", k, 7);
        k.addCrossing(6, 5, 4, 1);
        check.due("20: newDiagram(2)", k.newDiagram(2), 7);
        diagram("20:", k, 2);
        for (int arcs : new int[] {0, 8, -1, LOW, HIGH}) {
            check.due("20: newDiagram(" + arcs + ")", k.newDiagram(arcs), BAD_VALUE);
        }
        diagram("20:", k, 2);
        check.due("20: newDiagram(1)", k.newDiagram(1), 2);
        check.due("20: undo()", k.undo(), 3);
        check.due("20: undo()", k.undo(), 2);
        diagram("20:", k, 7, "6,5,4+");
    }

    private static void standard() {
        KnotColours k = new KnotColours();
        k.newDiagram(5);
        check.due("21: standard(0)", k.standard(0), 0);
        diagram("21: circle", k, 1);
        check.due("21: standard(1)", k.standard(1), 3);
        diagram("21: trefoil", k, 3, "0,1,2+", "1,2,0+", "2,0,1+");
        check.due("21: standard(2)", k.standard(2), 4);
        diagram("21: figure eight", k, 4, "0,2,3+", "1,3,0-", "2,0,1+", "3,1,2-");
        check.due("21: standard(3)", k.standard(3), 5);
        diagram("21: cinquefoil", k, 5, "0,2,3+", "3,0,1+", "1,3,4+", "4,1,2+", "2,4,0+");
        check.due("21: standard(4)", k.standard(4), 2);
        diagram("21: Hopf link", k, 2, "0,1,1+", "1,0,0+");
        check.due("21: standard(5)", k.standard(5), 0);
        diagram("21: two circles", k, 2);
        for (int which : new int[] {-1, 6, 7, LOW, HIGH}) {
            check.due("21: standard(" + which + ")", k.standard(which), NO_SUCH);
        }
        check.due("21: undo()", k.undo(), 5);
        diagram("21: Hopf link again", k, 2, "0,1,1+", "1,0,0+");
    }

    private static void addCrossing() {
        KnotColours k = new KnotColours();
        k.newDiagram(3);
        check.due("22: addCrossing(0, 1, 2, 1)", k.addCrossing(0, 1, 2, 1), 0);
        check.due("22: addCrossing(2, 2, 2, -1)", k.addCrossing(2, 2, 2, -1), 1);
        diagram("22:", k, 3, "0,1,2+", "2,2,2-");
        for (int arc : new int[] {-1, 3, 7, LOW, HIGH}) {
            check.due("22: addCrossing, over " + arc, k.addCrossing(arc, 0, 0, 1), NO_SUCH);
            check.due("22: addCrossing, in " + arc, k.addCrossing(0, arc, 0, 1), NO_SUCH);
            check.due("22: addCrossing, out " + arc, k.addCrossing(0, 0, arc, 1), NO_SUCH);
        }
        for (int sign : new int[] {0, 2, -2, LOW, HIGH}) {
            check.due("22: addCrossing, sign " + sign, k.addCrossing(0, 0, 0, sign), BAD_VALUE);
        }
        check.due("22: addCrossing, no arc and no sign", k.addCrossing(0, 3, 0, 0), NO_SUCH);
        diagram("22:", k, 3, "0,1,2+", "2,2,2-");
        for (int number = 2; number < 10; number++) {
            check.due("22: addCrossing(1, 0, 2, 1)", k.addCrossing(1, 0, 2, 1), number);
        }
        check.due("22: an eleventh crossing", k.addCrossing(0, 0, 0, 1), LIMIT);
        check.due("22: an eleventh crossing without a sign", k.addCrossing(0, 0, 0, 0), BAD_VALUE);
        check.due("22: an eleventh crossing without an arc", k.addCrossing(0, 0, 3, 1), NO_SUCH);
        check.due("22: crossings()", k.crossings(), 10);
        check.due("22: undo()", k.undo(), 5);
        check.due("22: crossings()", k.crossings(), 9);
    }

    private static void removeCrossing() {
        KnotColours k = with(4, "0,1,2+", "1,2,3-", "2,3,0+", "3,0,1-");
        check.due("23: removeCrossing(1)", k.removeCrossing(1), 3);
        diagram("23:", k, 4, "0,1,2+", "2,3,0+", "3,0,1-");
        for (int crossing : new int[] {-1, 3, 4, 10, LOW, HIGH}) {
            check.due("23: removeCrossing(" + crossing + ")", k.removeCrossing(crossing), NO_SUCH);
        }
        check.due("23: removeCrossing(2)", k.removeCrossing(2), 2);
        diagram("23:", k, 4, "0,1,2+", "2,3,0+");
        check.due("23: removeCrossing(0)", k.removeCrossing(0), 1);
        diagram("23:", k, 4, "2,3,0+");
        check.due("23: undo()", k.undo(), 5);
        check.due("23: undo()", k.undo(), 4);
        diagram("23:", k, 4, "0,1,2+", "2,3,0+", "3,0,1-");
        KnotColours full = with(2, "0,0,0+", "0,0,0+", "0,0,0+", "0,0,0+", "0,0,0+",
                "0,0,0+", "0,0,0+", "0,0,0+", "0,1,0+", "1,0,1-");
        check.due("23: removeCrossing(9) of ten", full.removeCrossing(9), 9);
        check.due("23: removeCrossing(0) of nine", full.removeCrossing(0), 8);
        check.due("23: crossing(7, 1)", full.crossing(7, 1), 1);
        check.due("23: removeCrossing(0) without crossings", new KnotColours().removeCrossing(0), NO_SUCH);
    }

    private static void kink() {
        KnotColours k = new KnotColours();
        k.standard(1);
        check.due("24: kink(2, -1)", k.kink(2, -1), 3);
        diagram("24:", k, 4, "0,1,2+", "1,3,0+", "2,0,1+", "2,2,3-");
        check.due("24: kink(2, 1)", k.kink(2, 1), 4);
        diagram("24:", k, 5, "0,1,2+", "1,3,0+", "2,0,1+", "2,4,3-", "2,2,4+");
        check.due("24: undo()", k.undo(), 2);
        diagram("24:", k, 4, "0,1,2+", "1,3,0+", "2,0,1+", "2,2,3-");
        KnotColours many = with(2, "0,1,0+", "1,1,0-", "1,1,1+");
        check.due("24: kink(1, 1) with three in-arcs", many.kink(1, 1), 2);
        diagram("24:", many, 3, "0,2,0+", "1,2,0-", "1,2,1+", "1,1,2+");
        for (int arc : new int[] {-1, 3, LOW, HIGH}) {
            check.due("24: kink(" + arc + ", 1)", many.kink(arc, 1), NO_SUCH);
            check.due("24: kink(" + arc + ", 0)", many.kink(arc, 0), NO_SUCH);
        }
        for (int sign : new int[] {0, 2, -2, LOW, HIGH}) {
            check.due("24: kink(0, " + sign + ")", many.kink(0, sign), BAD_VALUE);
        }
        diagram("24:", many, 3, "0,2,0+", "1,2,0-", "1,2,1+", "1,1,2+");
        KnotColours six = new KnotColours();
        six.newDiagram(6);
        check.due("24: kink with 6 arcs", six.kink(5, 1), 6);
        check.due("24: kink with 7 arcs", six.kink(5, 1), LIMIT);
        check.due("24: kink with 7 arcs without a sign", six.kink(5, 0), BAD_VALUE);
        check.due("24: kink with 7 arcs without an arc", six.kink(7, 1), NO_SUCH);
        diagram("24:", six, 7, "5,5,6+");
        KnotColours full = with(1, "0,0,0+", "0,0,0+", "0,0,0+", "0,0,0+", "0,0,0+",
                "0,0,0+", "0,0,0+", "0,0,0+", "0,0,0+");
        check.due("24: kink with 9 crossings", full.kink(0, 1), 1);
        check.due("24: kink with 10 crossings", full.kink(0, 1), LIMIT);
        check.due("24: crossing(8, 1)", full.crossing(8, 1), 1);
        check.due("24: crossing(9, 1)", full.crossing(9, 1), 0);
    }

    private static void poke() {
        KnotColours k = new KnotColours();
        k.standard(4);
        check.due("25: poke(0, 1)", k.poke(0, 1), 4);
        diagram("25:", k, 4, "0,1,1+", "1,3,0+", "1,0,2+", "1,2,3-");
        check.due("25: poke(1, 1), the same arc", k.poke(1, 1), 6);
        diagram("25:", k, 6, "0,5,1+", "1,3,0+", "1,0,2+", "1,2,3-", "1,1,4+", "1,4,5-");
        check.due("25: poke with 6 arcs", k.poke(0, 1), LIMIT);
        for (int arc : new int[] {-1, 6, 7, LOW, HIGH}) {
            check.due("25: poke(" + arc + ", 0)", k.poke(arc, 0), NO_SUCH);
            check.due("25: poke(0, " + arc + ")", k.poke(0, arc), NO_SUCH);
        }
        check.due("25: undo()", k.undo(), 2);
        diagram("25:", k, 4, "0,1,1+", "1,3,0+", "1,0,2+", "1,2,3-");
        KnotColours five = new KnotColours();
        five.newDiagram(5);
        check.due("25: poke with 5 arcs", five.poke(4, 0), 7);
        check.due("25: poke with 7 arcs", five.poke(4, 0), LIMIT);
        KnotColours full = with(1, "0,0,0+", "0,0,0+", "0,0,0+", "0,0,0+",
                "0,0,0+", "0,0,0+", "0,0,0+", "0,0,0+");
        check.due("25: poke with 8 crossings", full.poke(0, 0), 3);
        check.due("25: crossings()", full.crossings(), 10);
        check.due("25: crossing(0, 1)", full.crossing(0, 1), 2);
        KnotColours nine = with(1, "0,0,0+", "0,0,0+", "0,0,0+", "0,0,0+",
                "0,0,0+", "0,0,0+", "0,0,0+", "0,0,0+", "0,0,0+");
        check.due("25: poke with 9 crossings", nine.poke(0, 0), LIMIT);
        diagram("25:", nine, 1, "0,0,0+", "0,0,0+", "0,0,0+", "0,0,0+",
                "0,0,0+", "0,0,0+", "0,0,0+", "0,0,0+", "0,0,0+");
    }

    private static void crossing() {
        KnotColours k = with(4, "3,1,2-");
        check.due("26: arcs()", k.arcs(), 4);
        check.due("27: crossings()", k.crossings(), 1);
        diagram("28:", k, 4, "3,1,2-");
        for (int wrong : new int[] {-1, 1, 10, LOW, HIGH}) {
            check.due("28: crossing(" + wrong + ", 0)", k.crossing(wrong, 0), NO_SUCH);
            check.due("28: crossing(" + wrong + ", 4)", k.crossing(wrong, 4), NO_SUCH);
        }
        for (int part : new int[] {-1, 4, LOW, HIGH}) {
            check.due("28: crossing(0, " + part + ")", k.crossing(0, part), BAD_VALUE);
        }
        k.kink(0, 1);
        check.due("26: arcs() with a kink", k.arcs(), 5);
        check.due("27: crossings() with a kink", k.crossings(), 2);
    }

    private static void components() {
        KnotColours k = new KnotColours();
        int[] due = {1, 1, 1, 1, 2, 2};
        for (int which = 0; which < due.length; which++) {
            k.standard(which);
            check.due("29: components() of standard(" + which + ")", k.components(), due[which]);
        }
        k.newDiagram(7);
        check.due("29: components() of 7 circles", k.components(), 7);
        KnotColours joined = with(3, "0,0,1+", "0,1,0+");
        check.due("29: components() of a joined pair and a circle", joined.components(), 2);
        joined.newDiagram(3);
        check.due("29: components() of three circles then", joined.components(), 3);
        check.due("29: an open arc", with(2, "0,0,1+").components(), NONE);
        check.due("29: an arc that is in-arc twice", with(1, "0,0,0+", "0,0,0+").components(), NONE);
        check.due("29: an arc that is in-arc and out-arc twice",
                with(2, "0,0,1+", "0,1,0+", "0,0,1+", "0,1,0+").components(), NONE);
        check.due("29: an in-arc too many", with(3, "0,0,1+", "0,0,1+", "0,1,0+").components(), NONE);
        check.due("29: a chain against the order", with(4, "0,3,2+", "0,2,1-", "0,1,0+", "0,0,3+").components(), 1);
        check.due("29: over-arcs do not join", with(4, "2,0,1+", "3,1,0+", "0,2,2-").components(), 3);
        check.due("29: two rings", with(6, "0,0,2+", "1,2,4+", "2,4,0+", "3,1,3-", "4,3,5-", "5,5,1-").components(), 2);
        check.due("29: a long ring with the crossings in bad order", with(7, "0,6,5+", "0,0,6+", "0,1,0+",
                "0,2,1+", "0,3,2+", "0,4,3+", "0,5,4+").components(), 1);
    }

    private static void writhe() {
        KnotColours k = new KnotColours();
        check.due("30: writhe()", k.writhe(), 100);
        int[] due = {100, 103, 100, 105, 102, 100};
        for (int which = 0; which < due.length; which++) {
            k.standard(which);
            check.due("30: writhe() of standard(" + which + ")", k.writhe(), due[which]);
        }
        check.due("30: writhe() below 100", with(1, "0,0,0-", "0,0,0-", "0,0,0+", "0,0,0-").writhe(), 98);
        check.due("30: writhe() of ten", with(1, "0,0,0-", "0,0,0-", "0,0,0-", "0,0,0-", "0,0,0-", "0,0,0-",
                "0,0,0-", "0,0,0-", "0,0,0-", "0,0,0-").writhe(), 90);
    }

    private static void linking() {
        KnotColours k = new KnotColours();
        k.standard(4);
        check.due("31: linking(0, 1)", k.linking(0, 1), 101);
        check.due("31: linking(1, 0)", k.linking(1, 0), 101);
        check.due("31: linking(0, 0)", k.linking(0, 0), 100);
        k.kink(0, -1);
        check.due("31: linking(0, 0) with a kink", k.linking(0, 0), 99);
        check.due("31: linking(2, 0), the same component", k.linking(2, 0), 99);
        check.due("31: linking(2, 1)", k.linking(2, 1), 101);
        for (int arc : new int[] {-1, 3, 7, LOW, HIGH}) {
            check.due("31: linking(" + arc + ", 0)", k.linking(arc, 0), NO_SUCH);
            check.due("31: linking(0, " + arc + ")", k.linking(0, arc), NO_SUCH);
        }
        KnotColours oneWay = with(2, "0,1,1-", "0,0,0+");
        check.due("31: linking(0, 1) one way", oneWay.linking(0, 1), 99);
        check.due("31: linking(1, 0) one way", oneWay.linking(1, 0), 100);
        check.due("31: linking(0, 0) one way", oneWay.linking(0, 0), 101);
        oneWay.newDiagram(2);
        check.due("31: linking(0, 1) of two circles then", oneWay.linking(0, 1), 100);
        KnotColours open = with(2, "0,0,1+");
        check.due("31: linking(0, 1) of an open diagram", open.linking(0, 1), NONE);
        check.due("31: linking(0, 2) of an open diagram", open.linking(0, 2), NO_SUCH);
    }
}
