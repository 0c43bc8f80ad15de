/** Promises 20 to 31 and the term diagram: each sentence that names a boundary case, by itself. */
public final class DiagramBoundsTest {
    private static final int NO_SUCH = Sentences.NO_SUCH;
    private static final int BAD_VALUE = Sentences.BAD_VALUE;
    private static final int LIMIT = Sentences.LIMIT;
    private static final int NONE = Sentences.NONE;

    private static final String TREFOIL = "3: 0,1,2+ 1,2,0+ 2,0,1+";
    private static final String HOPF_LINK = "2: 0,1,1+ 1,0,0+";
    private static final String NINE = "3:" + Sentences.times(9, "0,1,2-");
    private static final String TEN = "3:" + Sentences.times(10, "0,1,2-");
    private static final int[] NO_SIGNS = {0, 2, -2, 3, -3, 257, -257, 65537, Integer.MAX_VALUE, Integer.MIN_VALUE};

    private static final Sentences s = new Sentences();

    public static void main(String[] args) {
        newWorkbench();
        newDiagram();
        standard();
        addCrossing();
        addCrossingRefused();
        removeCrossing();
        kink();
        kinkRefused();
        poke();
        pokeRefused();
        arcsAndCrossings();
        crossing();
        components();
        closed();
        writhe();
        linking();
        s.end();
    }

    private static KnotColours with(String parts) {
        return Sentences.withDiagram(parts);
    }

    private static void diagram(KnotColours k, String parts) {
        s.same("the diagram", Sentences.diagramOf(k), parts);
    }

    private static Sentences.Steps made(String parts) {
        return k -> Sentences.makeDiagram(k, parts);
    }

    private static void newWorkbench() {
        s.test("terms: 'The diagram of a new workbench has 1 arc and no crossings'", () ->
            diagram(new KnotColours(), "1:"));
        s.test("terms: 'A diagram has 1 to 7 arcs and 0 to 10 crossings', whatever is asked for", () -> {
            KnotColours k = new KnotColours();
            for (int round = 0; round < 60; round++) {
                k.kink(round % 3, 1);
                k.poke(round % 5, round % 2);
                k.addCrossing(0, 0, 0, -1);
                k.removeCrossing(round % 11);
                if (round % 10 == 9) {
                    k.newDiagram(round % 9);
                }
                s.due("1 <= arcs() <= 7", k.arcs() >= 1 && k.arcs() <= 7 ? 1 : 0, 1);
                s.due("0 <= crossings() <= 10", k.crossings() >= 0 && k.crossings() <= 10 ? 1 : 0, 1);
            }
        });
    }

    private static void newDiagram() {
        s.test("20: 'arcs: 1 to 7', the least", () -> {
            KnotColours k = with(TREFOIL);
            s.due("newDiagram(1)", k.newDiagram(1), 3);
            diagram(k, "1:");
        });
        s.test("20: 'arcs: 1 to 7', the greatest", () -> {
            KnotColours k = new KnotColours();
            s.due("newDiagram(7)", k.newDiagram(7), 1);
            diagram(k, "7:");
        });
        s.test("20: 'a diagram without crossings', from a full one", () -> {
            KnotColours k = with(TEN);
            s.due("newDiagram(3)", k.newDiagram(3), 3);
            diagram(k, "3:");
            s.due("addCrossing then", k.addCrossing(2, 2, 2, 1), 0);
        });
        s.test("20: 'Returns the previous number of arcs', if it stays and if it was the greatest", () -> {
            KnotColours k = new KnotColours();
            s.due("newDiagram(1)", k.newDiagram(1), 1);
            k.newDiagram(7);
            s.due("newDiagram(7)", k.newDiagram(7), 7);
        });
        s.refused("20: 'BAD_VALUE if arcs is out of range', too small", made(TREFOIL),
                BAD_VALUE, Sentences.below(1), KnotColours::newDiagram);
        s.refused("20: 'BAD_VALUE if arcs is out of range', too large", made(TREFOIL),
                BAD_VALUE, Sentences.above(7), KnotColours::newDiagram);
    }

    private static void standard() {
        s.test("21: 'which: 0 to 5', the least", () -> {
            KnotColours k = with(TEN);
            s.due("standard(0)", k.standard(0), 0);
            diagram(k, "1:");
        });
        s.test("21: 'which: 0 to 5', the greatest", () -> {
            KnotColours k = with(TEN);
            s.due("standard(5)", k.standard(5), 0);
            diagram(k, "2:");
        });
        s.test("21: 'Returns the number of crossings', none to the most", () -> {
            int[] due = {0, 3, 4, 5, 2, 0};
            for (int which = 0; which < due.length; which++) {
                KnotColours k = with("7: 6,6,6-");
                s.due("standard(" + which + ")", k.standard(which), due[which]);
                s.due("crossings()", k.crossings(), due[which]);
            }
        });
        String[] due = {"1:", TREFOIL, "4: 0,2,3+ 1,3,0- 2,0,1+ 3,1,2-", "5: 0,2,3+ 3,0,1+ 1,3,4+ 4,1,2+ 2,4,0+",
            HOPF_LINK, "2:"};
        for (int number = 0; number < due.length; number++) {
            int which = number;
            s.test("terms: 'Standard diagrams', " + which + " behind a greater diagram", () -> {
                KnotColours k = with("7:" + Sentences.times(10, "6,5,4-"));
                k.standard(which);
                diagram(k, due[which]);
            });
        }
        s.refused("21: 'NO_SUCH if there is no such standard diagram', too small", made(TREFOIL),
                NO_SUCH, Sentences.below(0), KnotColours::standard);
        s.refused("21: 'NO_SUCH if there is no such standard diagram', too large", made(TREFOIL),
                NO_SUCH, Sentences.above(5), KnotColours::standard);
    }

    private static void addCrossing() {
        s.test("22: 'Returns the number of the crossing', the first and the last", () -> {
            KnotColours k = new KnotColours();
            for (int number = 0; number < 10; number++) {
                s.due("addCrossing(0, 0, 0, 1)", k.addCrossing(0, 0, 0, 1), number);
            }
            diagram(k, "1:" + Sentences.times(10, "0,0,0+"));
        });
        s.test("terms: 'the arcs need not be different', the lowest and the highest", () -> {
            KnotColours k = new KnotColours();
            k.newDiagram(7);
            s.due("addCrossing(0, 0, 0, 1)", k.addCrossing(0, 0, 0, 1), 0);
            s.due("addCrossing(6, 6, 6, -1)", k.addCrossing(6, 6, 6, -1), 1);
            s.due("addCrossing(0, 6, 0, 1)", k.addCrossing(0, 6, 0, 1), 2);
            s.due("addCrossing(6, 0, 6, 1)", k.addCrossing(6, 0, 6, 1), 3);
            diagram(k, "7: 0,0,0+ 6,6,6- 0,6,0+ 6,0,6+");
        });
        s.test("22: 'sign: 1 or -1', both", () -> {
            KnotColours k = new KnotColours();
            s.due("addCrossing(0, 0, 0, 1)", k.addCrossing(0, 0, 0, 1), 0);
            s.due("addCrossing(0, 0, 0, -1)", k.addCrossing(0, 0, 0, -1), 1);
            s.due("crossing(0, 3)", k.crossing(0, 3), 1);
            s.due("crossing(1, 3)", k.crossing(1, 3), -1);
        });
        s.test("22: 'LIMIT if there are 10 crossings', not if one has been removed", () -> {
            KnotColours k = with(TEN);
            k.removeCrossing(0);
            s.due("addCrossing(2, 1, 0, 1)", k.addCrossing(2, 1, 0, 1), 9);
            diagram(k, NINE + " 2,1,0+");
        });
    }

    private static void addCrossingRefused() {
        s.refused("22: 'NO_SUCH if there is no such arc', over too small", made(TREFOIL),
                NO_SUCH, Sentences.below(0), (k, arc) -> k.addCrossing(arc, 1, 2, 1));
        s.refused("22: 'NO_SUCH if there is no such arc', over too large", made(TREFOIL),
                NO_SUCH, Sentences.above(2), (k, arc) -> k.addCrossing(arc, 1, 2, 1));
        s.refused("22: 'NO_SUCH if there is no such arc', in too small", made(TREFOIL),
                NO_SUCH, Sentences.below(0), (k, arc) -> k.addCrossing(0, arc, 2, 1));
        s.refused("22: 'NO_SUCH if there is no such arc', in too large", made(TREFOIL),
                NO_SUCH, Sentences.above(2), (k, arc) -> k.addCrossing(0, arc, 2, 1));
        s.refused("22: 'NO_SUCH if there is no such arc', out too small", made(TREFOIL),
                NO_SUCH, Sentences.below(0), (k, arc) -> k.addCrossing(0, 1, arc, 1));
        s.refused("22: 'NO_SUCH if there is no such arc', out too large", made(TREFOIL),
                NO_SUCH, Sentences.above(2), (k, arc) -> k.addCrossing(0, 1, arc, 1));
        s.refused("22: 'NO_SUCH if there is no such arc', one of an earlier greater diagram",
                k -> { k.newDiagram(7); k.newDiagram(3); },
                NO_SUCH, new int[] {3, 4, 5, 6}, (k, arc) -> k.addCrossing(arc, arc, arc, 1));
        s.refused("22: 'BAD_VALUE if sign is neither 1 nor -1'", made(TREFOIL),
                BAD_VALUE, NO_SIGNS, (k, sign) -> k.addCrossing(0, 1, 2, sign));
        s.refused("22: 'LIMIT if there are 10 crossings'", made(TEN),
                LIMIT, new int[] {1, -1}, (k, sign) -> k.addCrossing(0, 1, 2, sign));
        s.refused("terms: 'the one that is named first': 22, NO_SUCH before BAD_VALUE", made(TREFOIL),
                NO_SUCH, NO_SIGNS, (k, sign) -> k.addCrossing(0, 1, 3, sign));
        s.refused("terms: 'the one that is named first': 22, NO_SUCH before LIMIT", made(TEN),
                NO_SUCH, new int[] {3, -1}, (k, arc) -> k.addCrossing(arc, 1, 2, 1));
        s.refused("terms: 'the one that is named first': 22, BAD_VALUE before LIMIT", made(TEN),
                BAD_VALUE, NO_SIGNS, (k, sign) -> k.addCrossing(0, 1, 2, sign));
        s.refused("terms: 'the one that is named first': 22, NO_SUCH before both", made(TEN),
                NO_SUCH, NO_SIGNS, (k, sign) -> k.addCrossing(0, 3, 2, sign));
    }

    private static void removeCrossing() {
        s.test("23: 'the crossing', the only one", () -> {
            KnotColours k = with("2: 0,1,1-");
            s.due("removeCrossing(0)", k.removeCrossing(0), 0);
            diagram(k, "2:");
        });
        s.test("terms: 'the crossings behind it get numbers that are lower by 1', behind the first", () -> {
            KnotColours k = with("4: 0,1,2+ 1,2,3- 2,3,0+ 3,0,1-");
            s.due("removeCrossing(0)", k.removeCrossing(0), 3);
            diagram(k, "4: 1,2,3- 2,3,0+ 3,0,1-");
        });
        s.test("terms: 'the crossings behind it get numbers that are lower by 1', not those ahead", () -> {
            KnotColours k = with("4: 0,1,2+ 1,2,3- 2,3,0+ 3,0,1-");
            s.due("removeCrossing(2)", k.removeCrossing(2), 3);
            diagram(k, "4: 0,1,2+ 1,2,3- 3,0,1-");
        });
        s.test("terms: 'the crossings behind it get numbers that are lower by 1', none behind the last", () -> {
            KnotColours k = with("4: 0,1,2+ 1,2,3- 2,3,0+ 3,0,1-");
            s.due("removeCrossing(3)", k.removeCrossing(3), 3);
            diagram(k, "4: 0,1,2+ 1,2,3- 2,3,0+");
        });
        s.test("23: 'Returns the number of crossings that are left', the first of ten", () -> {
            KnotColours k = with("3: 2,1,0+" + Sentences.times(9, "0,1,2-"));
            s.due("removeCrossing(0)", k.removeCrossing(0), 9);
            diagram(k, NINE);
        });
        s.test("23: 'Returns the number of crossings that are left', the last of ten", () -> {
            KnotColours k = with(NINE + " 2,1,0+");
            s.due("removeCrossing(9)", k.removeCrossing(9), 9);
            diagram(k, NINE);
        });
        s.refused("23: 'NO_SUCH if there is no such crossing', too small", made(TREFOIL),
                NO_SUCH, Sentences.below(0), KnotColours::removeCrossing);
        s.refused("23: 'NO_SUCH if there is no such crossing', too large", made(TREFOIL),
                NO_SUCH, Sentences.above(2), KnotColours::removeCrossing);
        s.refused("23: 'NO_SUCH if there is no such crossing', no crossing at all", k -> k.standard(5),
                NO_SUCH, new int[] {-1, 0, 1}, KnotColours::removeCrossing);
        s.refused("23: 'NO_SUCH if there is no such crossing', behind ten", made(TEN),
                NO_SUCH, Sentences.above(9), KnotColours::removeCrossing);
        s.refused("23: 'NO_SUCH if there is no such crossing', one that has been removed",
                k -> { k.standard(1); k.removeCrossing(0); }, NO_SUCH, new int[] {2, 3}, KnotColours::removeCrossing);
    }

    private static void kink() {
        s.test("24: 'all crossings of which the arc was the in-arc', none", () -> {
            KnotColours k = new KnotColours();
            s.due("kink(0, 1)", k.kink(0, 1), 1);
            diagram(k, "2: 0,0,1+");
        });
        s.test("24: 'all crossings of which the arc was the in-arc', each of them", () -> {
            KnotColours k = with("2:" + Sentences.times(4, "0,1,1-") + Sentences.times(5, "1,1,0+"));
            s.due("kink(1, -1)", k.kink(1, -1), 2);
            diagram(k, "3:" + Sentences.times(4, "0,2,1-") + Sentences.times(5, "1,2,0+") + " 1,1,2-");
        });
        s.test("24: 'the arc as over-arc and in-arc, the new arc as out-arc': the new crossing is not among those", () -> {
            KnotColours k = with("1: 0,0,0+");
            s.due("kink(0, -1)", k.kink(0, -1), 1);
            diagram(k, "2: 0,1,0+ 0,0,1-");
        });
        s.test("24: 'arc: the arc', the lowest and the highest", () -> {
            KnotColours k = with(TREFOIL);
            s.due("kink(0, 1)", k.kink(0, 1), 3);
            diagram(k, "4: 0,1,2+ 1,2,0+ 2,3,1+ 0,0,3+");
            s.due("kink(3, 1)", k.kink(3, 1), 4);
            diagram(k, "5: 0,1,2+ 1,2,0+ 2,4,1+ 0,0,3+ 3,3,4+");
        });
        s.test("24: 'sign: 1 or -1', both", () -> {
            KnotColours k = new KnotColours();
            s.due("kink(0, 1)", k.kink(0, 1), 1);
            s.due("kink(0, -1)", k.kink(0, -1), 2);
            diagram(k, "3: 0,2,1+ 0,0,2-");
        });
        s.test("24: 'LIMIT if there are 7 arcs or 10 crossings', not yet with 6 arcs", () -> {
            KnotColours k = with("6:");
            s.due("kink(5, 1)", k.kink(5, 1), 6);
            diagram(k, "7: 5,5,6+");
        });
        s.test("24: 'LIMIT if there are 7 arcs or 10 crossings', not yet with 9 crossings", () -> {
            KnotColours k = with(NINE);
            s.due("kink(0, 1)", k.kink(0, 1), 3);
            diagram(k, "4:" + Sentences.times(9, "0,1,2-") + " 0,0,3+");
        });
        s.test("24: 'LIMIT', not yet with 6 arcs and 9 crossings", () -> {
            KnotColours k = with("6:" + Sentences.times(9, "0,1,2-"));
            s.due("kink(0, 1)", k.kink(0, 1), 6);
            diagram(k, "7:" + Sentences.times(9, "0,1,2-") + " 0,0,6+");
        });
    }

    private static void kinkRefused() {
        s.refused("24: 'NO_SUCH if there is no such arc', too small", made(TREFOIL),
                NO_SUCH, Sentences.below(0), (k, arc) -> k.kink(arc, 1));
        s.refused("24: 'NO_SUCH if there is no such arc', too large", made(TREFOIL),
                NO_SUCH, Sentences.above(2), (k, arc) -> k.kink(arc, 1));
        s.refused("24: 'BAD_VALUE if sign is neither 1 nor -1'", made(TREFOIL),
                BAD_VALUE, NO_SIGNS, (k, sign) -> k.kink(0, sign));
        s.refused("24: 'LIMIT if there are 7 arcs or 10 crossings', 7 arcs", made("7: 0,1,2+"),
                LIMIT, new int[] {0, 6}, (k, arc) -> k.kink(arc, 1));
        s.refused("24: 'LIMIT if there are 7 arcs or 10 crossings', 10 crossings", made(TEN),
                LIMIT, new int[] {0, 2}, (k, arc) -> k.kink(arc, -1));
        s.refused("24: 'LIMIT if there are 7 arcs or 10 crossings', both", made("7:" + Sentences.times(10, "0,1,2-")),
                LIMIT, new int[] {0, 6}, (k, arc) -> k.kink(arc, 1));
        s.refused("terms: 'the one that is named first': 24, NO_SUCH before BAD_VALUE", made(TREFOIL),
                NO_SUCH, NO_SIGNS, (k, sign) -> k.kink(3, sign));
        s.refused("terms: 'the one that is named first': 24, NO_SUCH before LIMIT", made("7:"),
                NO_SUCH, new int[] {7, -1}, (k, arc) -> k.kink(arc, 1));
        s.refused("terms: 'the one that is named first': 24, NO_SUCH before LIMIT of the crossings", made(TEN),
                NO_SUCH, new int[] {3, -1}, (k, arc) -> k.kink(arc, 1));
        s.refused("terms: 'the one that is named first': 24, BAD_VALUE before LIMIT", made("7:"),
                BAD_VALUE, NO_SIGNS, (k, sign) -> k.kink(6, sign));
        s.refused("terms: 'the one that is named first': 24, BAD_VALUE before LIMIT of the crossings", made(TEN),
                BAD_VALUE, NO_SIGNS, (k, sign) -> k.kink(2, sign));
        s.refused("terms: 'the one that is named first': 24, NO_SUCH before both", made("7:"),
                NO_SUCH, NO_SIGNS, (k, sign) -> k.kink(7, sign));
    }

    private static void poke() {
        s.test("25: 'the other arc, which can be the same'", () -> {
            KnotColours k = new KnotColours();
            s.due("poke(0, 0)", k.poke(0, 0), 3);
            diagram(k, "3: 0,0,1+ 0,1,2-");
        });
        s.test("25: 'all crossings of which the arc was the in-arc', none", () -> {
            KnotColours k = with("2:");
            s.due("poke(1, 0)", k.poke(1, 0), 4);
            diagram(k, "4: 0,1,2+ 0,2,3-");
        });
        s.test("25: 'all crossings of which the arc was the in-arc', each of them", () -> {
            KnotColours k = with("2:" + Sentences.times(4, "0,1,1-") + Sentences.times(4, "1,1,0+"));
            s.due("poke(1, 0)", k.poke(1, 0), 4);
            diagram(k, "4:" + Sentences.times(4, "0,3,1-") + Sentences.times(4, "1,3,0+") + " 0,1,2+ 0,2,3-");
        });
        s.test("25: 'b becomes the in-arc', not of the crossings of the other arc", () -> {
            KnotColours k = with(HOPF_LINK);
            s.due("poke(0, 1)", k.poke(0, 1), 4);
            diagram(k, "4: 0,1,1+ 1,3,0+ 1,0,2+ 1,2,3-");
        });
        s.test("25: 'arc: the arc' and 'over: the other arc', the lowest and the highest", () -> {
            KnotColours k = with("5:");
            s.due("poke(0, 4)", k.poke(0, 4), 7);
            diagram(k, "7: 4,0,5+ 4,5,6-");
            k = with("5:");
            s.due("poke(4, 0)", k.poke(4, 0), 7);
            diagram(k, "7: 0,4,5+ 0,5,6-");
        });
        s.test("25: 'LIMIT if there are more than 5 arcs or more than 8 crossings', not yet with 5 arcs", () -> {
            KnotColours k = with("5: 0,1,2+");
            s.due("poke(1, 4)", k.poke(1, 4), 7);
            diagram(k, "7: 0,6,2+ 4,1,5+ 4,5,6-");
        });
        s.test("25: 'LIMIT if there are more than 5 arcs or more than 8 crossings', not yet with 8 crossings", () -> {
            KnotColours k = with("3:" + Sentences.times(8, "0,1,2-"));
            s.due("poke(0, 2)", k.poke(0, 2), 5);
            diagram(k, "5:" + Sentences.times(8, "0,1,2-") + " 2,0,3+ 2,3,4-");
        });
        s.test("25: 'LIMIT', not yet with 5 arcs and 8 crossings", () -> {
            KnotColours k = with("5:" + Sentences.times(8, "0,1,2-"));
            s.due("poke(1, 1)", k.poke(1, 1), 7);
            diagram(k, "7:" + Sentences.times(8, "0,6,2-") + " 1,1,5+ 1,5,6-");
        });
    }

    private static void pokeRefused() {
        s.refused("25: 'NO_SUCH if there is no such arc', arc too small", made(TREFOIL),
                NO_SUCH, Sentences.below(0), (k, arc) -> k.poke(arc, 0));
        s.refused("25: 'NO_SUCH if there is no such arc', arc too large", made(TREFOIL),
                NO_SUCH, Sentences.above(2), (k, arc) -> k.poke(arc, 0));
        s.refused("25: 'NO_SUCH if there is no such arc', over too small", made(TREFOIL),
                NO_SUCH, Sentences.below(0), (k, over) -> k.poke(0, over));
        s.refused("25: 'NO_SUCH if there is no such arc', over too large, also the arcs that would be new", made(TREFOIL),
                NO_SUCH, Sentences.above(2), (k, over) -> k.poke(0, over));
        s.refused("25: 'LIMIT if there are more than 5 arcs or more than 8 crossings', 6 arcs", made("6: 0,1,2+"),
                LIMIT, new int[] {0, 5}, (k, arc) -> k.poke(arc, 0));
        s.refused("25: 'LIMIT if there are more than 5 arcs or more than 8 crossings', 7 arcs", made("7:"),
                LIMIT, new int[] {0, 6}, (k, arc) -> k.poke(arc, 0));
        s.refused("25: 'LIMIT if there are more than 5 arcs or more than 8 crossings', 9 crossings", made(NINE),
                LIMIT, new int[] {0, 2}, (k, arc) -> k.poke(arc, 0));
        s.refused("25: 'LIMIT if there are more than 5 arcs or more than 8 crossings', 10 crossings", made(TEN),
                LIMIT, new int[] {0, 2}, (k, arc) -> k.poke(0, arc));
        s.refused("25: 'LIMIT if there are more than 5 arcs or more than 8 crossings', both",
                made("6:" + Sentences.times(9, "0,1,2-")), LIMIT, new int[] {0, 5}, (k, arc) -> k.poke(arc, arc));
        s.refused("terms: 'the one that is named first': 25, NO_SUCH before LIMIT", made("6:"),
                NO_SUCH, new int[] {6, -1}, (k, arc) -> k.poke(arc, 0));
        s.refused("terms: 'the one that is named first': 25, NO_SUCH before LIMIT, over", made("6:"),
                NO_SUCH, new int[] {6, -1}, (k, over) -> k.poke(0, over));
        s.refused("terms: 'the one that is named first': 25, NO_SUCH before LIMIT of the crossings", made(NINE),
                NO_SUCH, new int[] {3, -1}, (k, over) -> k.poke(0, over));
    }

    private static void arcsAndCrossings() {
        s.test("26: 'Returns the number of arcs', the least and the greatest", () -> {
            KnotColours k = new KnotColours();
            s.due("arcs()", k.arcs(), 1);
            k.newDiagram(7);
            s.due("arcs() of seven", k.arcs(), 7);
            k.undo();
            s.due("arcs() after undo()", k.arcs(), 1);
        });
        s.test("27: 'Returns the number of crossings', the least and the greatest", () -> {
            KnotColours k = new KnotColours();
            s.due("crossings()", k.crossings(), 0);
            s.due("crossings() of ten", with(TEN).crossings(), 10);
        });
    }

    private static void crossing() {
        s.test("28: '0 for the over-arc' to '3 for the sign', the first and the last part", () -> {
            KnotColours k = with("4: 3,1,2-");
            s.due("crossing(0, 0)", k.crossing(0, 0), 3);
            s.due("crossing(0, 1)", k.crossing(0, 1), 1);
            s.due("crossing(0, 2)", k.crossing(0, 2), 2);
            s.due("crossing(0, 3)", k.crossing(0, 3), -1);
        });
        s.test("28: 'crossing: the crossing', the first and the last of ten", () -> {
            KnotColours k = with("7: 6,5,4+" + Sentences.times(8, "0,1,2-") + " 3,2,1+");
            s.due("crossing(0, 0)", k.crossing(0, 0), 6);
            s.due("crossing(0, 3)", k.crossing(0, 3), 1);
            s.due("crossing(9, 0)", k.crossing(9, 0), 3);
            s.due("crossing(9, 2)", k.crossing(9, 2), 1);
        });
        s.refused("28: 'NO_SUCH if there is no such crossing', too small", made(TREFOIL),
                NO_SUCH, Sentences.below(0), (k, crossing) -> k.crossing(crossing, 0));
        s.refused("28: 'NO_SUCH if there is no such crossing', too large", made(TREFOIL),
                NO_SUCH, Sentences.above(2), (k, crossing) -> k.crossing(crossing, 0));
        s.refused("28: 'NO_SUCH if there is no such crossing', no crossing at all", made("3:"),
                NO_SUCH, new int[] {-1, 0, 1}, (k, crossing) -> k.crossing(crossing, 0));
        s.refused("28: 'NO_SUCH if there is no such crossing', one that has been removed",
                k -> { k.standard(1); k.removeCrossing(0); },
                NO_SUCH, new int[] {2}, (k, crossing) -> k.crossing(crossing, 0));
        s.refused("28: 'NO_SUCH if there is no such crossing', behind ten", made(TEN),
                NO_SUCH, Sentences.above(9), (k, crossing) -> k.crossing(crossing, 0));
        s.refused("28: 'BAD_VALUE if part is out of range', too small", made(TREFOIL),
                BAD_VALUE, Sentences.below(0), (k, part) -> k.crossing(1, part));
        s.refused("28: 'BAD_VALUE if part is out of range', too large", made(TREFOIL),
                BAD_VALUE, Sentences.above(3), (k, part) -> k.crossing(0, part));
        s.refused("terms: 'the one that is named first': 28, NO_SUCH before BAD_VALUE", made(TREFOIL),
                NO_SUCH, new int[] {-1, 4}, (k, part) -> k.crossing(3, part));
    }

    private static void components() {
        s.test("29: 'the number of components of the diagram', without crossings", () -> {
            s.due("components() of a circle", new KnotColours().components(), 1);
            s.due("components() of seven circles", with("7:").components(), 7);
        });
        s.test("29: 'the number of components of the diagram', one of seven arcs", () ->
            s.due("components()", with("7: 0,6,5+ 0,0,6+ 0,1,0+ 0,2,1+ 0,3,2+ 0,4,3+ 0,5,4+").components(), 1));
        s.test("29: 'the number of components of the diagram', an arc by itself in each of seven crossings", () ->
            s.due("components()", with("7: 1,0,0+ 2,1,1+ 3,2,2+ 4,3,3+ 5,4,4+ 6,5,5+ 0,6,6+").components(), 7));
        s.test("29: 'arcs are in the same component only because of this', not because of the over-arc", () ->
            s.due("components()", with("4: 2,0,1+ 3,1,0+ 0,2,2-").components(), 3));
        s.test("29: 'arcs are in the same component only because of this', not because of a crossing that was there", () -> {
            KnotColours k = with("3: 0,1,1+ 0,0,2+");
            k.removeCrossing(1);
            s.due("components() of a removed crossing", k.components(), 3);
            k = with(TREFOIL);
            k.newDiagram(3);
            s.due("components() of an earlier diagram", k.components(), 3);
            k = with(TREFOIL);
            k.standard(5);
            k.undo();
            k.newDiagram(2);
            s.due("components() of an undone diagram", k.components(), 2);
        });
        s.test("29: 'NONE if the diagram is not closed'", () -> {
            KnotColours k = with("2: 0,0,1+");
            s.due("components()", k.components(), NONE);
            k.addCrossing(0, 1, 0, 1);
            s.due("components() when it is closed", k.components(), 1);
        });
    }

    private static void closed() {
        s.test("terms: 'closed if each arc is the in-arc of as many crossings as it is the out-arc of', none", () ->
            s.due("components()", with("2: 0,0,0+").components(), 2));
        s.test("terms: 'closed if each arc is the in-arc of as many', once in and never out, the first arc", () ->
            s.due("components()", with("3: 0,0,1+ 0,1,2+ 0,2,1+").components(), NONE));
        s.test("terms: 'closed if each arc is the in-arc of as many', never in and once out, the last arc", () ->
            s.due("components()", with("3: 0,0,1+ 0,1,0+ 0,1,2+").components(), NONE));
        s.test("terms: 'closed if each arc is the in-arc of as many', once in and twice out", () ->
            s.due("components()", with("3: 0,2,0+ 0,0,0+").components(), NONE));
        s.test("terms: 'and of at most one', an arc that is twice both", () -> {
            s.due("components()", with("1: 0,0,0+ 0,0,0-").components(), NONE);
            s.due("components()", with("7: 0,6,6+ 0,6,6-").components(), NONE);
        });
        s.test("terms: 'closed', not for the over-arc: it may be over any number of crossings", () ->
            s.due("components()", with("3: 2,0,1+ 2,1,0+").components(), 2));
    }

    private static void writhe() {
        s.test("30: 'plus 100', without crossings", () ->
            s.due("writhe()", new KnotColours().writhe(), 100));
        s.test("30: 'the sum of the signs of all crossings', the least", () ->
            s.due("writhe()", with(TEN).writhe(), 90));
        s.test("30: 'the sum of the signs of all crossings', the greatest", () ->
            s.due("writhe()", with("1:" + Sentences.times(10, "0,0,0+")).writhe(), 110));
        s.test("30: 'the sum of the signs', also of a diagram that is not closed", () ->
            s.due("writhe()", with("2: 0,0,1+ 0,0,1+ 0,0,1-").writhe(), 101));
    }

    private static void linking() {
        s.test("31: 'Returns the sum plus 100', without crossings", () -> {
            s.due("linking(0, 0)", new KnotColours().linking(0, 0), 100);
            s.due("linking(0, 6)", with("7:").linking(0, 6), 100);
        });
        s.test("31: 'the sum of the signs', the least and the greatest", () -> {
            s.due("linking(6, 0)", with("7: 0,6,5+ 0,0,6+ 0,1,0+ 0,2,1+ 0,3,2+ 0,4,3+ 0,5,4+").linking(6, 0), 107);
            s.due("linking(3, 3)", with("7: 0,6,5- 0,0,6- 0,1,0- 0,2,1- 0,3,2- 0,4,3- 0,5,4-").linking(3, 3), 93);
        });
        s.test("31: 'over-arc is in the component of the first arc' and 'in-arc is in the component of the second arc'", () -> {
            KnotColours k = with("2: 0,1,1-");
            s.due("linking(0, 1)", k.linking(0, 1), 99);
            s.due("linking(1, 0)", k.linking(1, 0), 100);
            s.due("linking(0, 0)", k.linking(0, 0), 100);
            s.due("linking(1, 1)", k.linking(1, 1), 100);
        });
        s.test("31: 'first: an arc' and 'second: an arc', the lowest and the highest", () -> {
            KnotColours k = with("7: 0,6,6+");
            s.due("linking(0, 6)", k.linking(0, 6), 101);
            s.due("linking(6, 0)", k.linking(6, 0), 100);
        });
        s.test("31: 'the sum of the signs of all crossings', not of one that was there", () -> {
            KnotColours k = with("2: 0,0,0+ 1,1,1-");
            s.due("linking(1, 1)", k.linking(1, 1), 99);
            k.removeCrossing(1);
            s.due("linking(1, 1) of a removed crossing", k.linking(1, 1), 100);
            s.due("linking(0, 0)", k.linking(0, 0), 101);
            k.newDiagram(2);
            s.due("linking(0, 0) of an earlier diagram", k.linking(0, 0), 100);
        });
        s.test("31: 'NONE if the diagram is not closed'", () -> {
            s.due("linking(0, 1)", with("2: 0,0,1+").linking(0, 1), NONE);
            s.due("linking(0, 0), an arc twice", with("1: 0,0,0+ 0,0,0+").linking(0, 0), NONE);
        });
        s.refused("31: 'NO_SUCH if there is no such arc', first too small", made(HOPF_LINK),
                NO_SUCH, Sentences.below(0), (k, arc) -> k.linking(arc, 0));
        s.refused("31: 'NO_SUCH if there is no such arc', first too large", made(HOPF_LINK),
                NO_SUCH, Sentences.above(1), (k, arc) -> k.linking(arc, 0));
        s.refused("31: 'NO_SUCH if there is no such arc', second too small", made(HOPF_LINK),
                NO_SUCH, Sentences.below(0), (k, arc) -> k.linking(0, arc));
        s.refused("31: 'NO_SUCH if there is no such arc', second too large", made(HOPF_LINK),
                NO_SUCH, Sentences.above(1), (k, arc) -> k.linking(0, arc));
        s.refused("31: 'NO_SUCH' before 'NONE if the diagram is not closed'", made("2: 0,0,1+"),
                NO_SUCH, new int[] {2, -1}, (k, arc) -> k.linking(0, arc));
    }
}
