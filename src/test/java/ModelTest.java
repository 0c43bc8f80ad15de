/** All promises: long runs of calls on fresh objects, each answer compared with the model's. */
public final class ModelTest {
    private static final int RUNS = 160;
    private static final int CALLS = 512;
    private static final int[] ODD = {-1, -7, 8, 10, 63, 64, 100, Integer.MIN_VALUE, Integer.MAX_VALUE};
    private static final String TEXT_SIGNS = "0123456,+-;0,0,7;";

    private static final Check check = new Check();
    private static long seed = 20261119L;

    private final KnotColours k = new KnotColours();
    private final Model m = new Model();
    private final boolean manyArcs;

    private ModelTest(boolean manyArcs) {
        this.manyArcs = manyArcs;
    }

    public static void main(String[] args) {
        for (int run = 0; run < RUNS; run++) {
            ModelTest pair = new ModelTest(run % 8 == 0);
            for (int call = 0; call < CALLS; call++) {
                pair.step(run + "/" + call + " ");
            }
        }
        check.end();
    }

    /** Pseudo-random numbers that are the same in each run of the test. */
    private static int below(int bound) {
        seed = seed * 6364136223846793005L + 1442695040888963407L;
        return (int) ((seed >>> 33) % bound);
    }

    /** Mostly a number from low to high, seldom one outside. */
    private static int about(int low, int high) {
        int kind = below(25);
        if (kind == 0) {
            return ODD[below(ODD.length)];
        }
        if (kind == 1) {
            return below(2) == 0 ? low - 1 : high + 1;
        }
        return low + below(high - low + 1);
    }

    private int element() {
        return about(0, m.size() - 1);
    }

    private int arc() {
        return about(0, m.arcs() - 1);
    }

    private static int sign() {
        return below(20) == 0 ? about(-2, 2) : 2 * below(2) - 1;
    }

    private void step(String name) {
        int kind = below(100);
        if (kind < 16) {
            changeTable(name);
        } else if (kind < 36) {
            changeDiagram(name);
        } else if (kind < 42) {
            check.due(name + "undo()", k.undo(), m.undo());
        } else if (kind < 56) {
            askTable(name);
        } else if (kind < 68) {
            askGroups(name);
        } else if (kind < 78) {
            askDiagram(name);
        } else if (kind < 82) {
            askColourings(name);
        } else if (kind < 98) {
            useText(name);
        } else {
            check.due(name + "digest()", k.digest(), m.digest());
        }
    }

    private void changeTable(String name) {
        int a = about(1, 6);
        int b = about(0, 5);
        int x = element();
        int y = element();
        int z = element();
        switch (below(9)) {
            case 0: check.due(name + "trivial " + a, k.trivial(a), m.trivial(a)); break;
            case 1: check.due(name + "dihedral " + a, k.dihedral(a), m.dihedral(a)); break;
            case 2: check.due(name + "linear " + a + " " + b, k.linear(a, b), m.linear(a, b)); break;
            case 3: check.due(name + "transpositions " + a, k.transpositions(a), m.transpositions(a)); break;
            case 4: check.due(name + "invert", k.invert(), m.invert()); break;
            case 5: swapProducts(name, x, y, z); break;
            default: check.due(name + "setProduct " + x + " " + y + " " + z,
                    k.setProduct(x, y, z), m.setProduct(x, y, z)); break;
        }
    }

    /** Keeps the translations permutations, which single products rarely do. */
    private void swapProducts(String name, int x, int y, int z) {
        int first = m.product(x, y);
        int second = m.product(z, y);
        check.due(name + "product", k.product(x, y), first);
        check.due(name + "swap", k.setProduct(x, y, second), m.setProduct(x, y, second));
        check.due(name + "swap", k.setProduct(z, y, first), m.setProduct(z, y, first));
    }

    private void changeDiagram(String name) {
        int a = about(1, manyArcs ? 7 : 3);
        int s = about(0, 5);
        int x = arc();
        int y = arc();
        int z = arc();
        int sign = sign();
        int c = about(0, Math.max(0, m.crossings() - 1));
        switch (below(12)) {
            case 0: check.due(name + "newDiagram " + a, k.newDiagram(a), m.newDiagram(a)); break;
            case 1: case 2: check.due(name + "standard " + s, k.standard(s), m.standard(s)); break;
            case 3: check.due(name + "removeCrossing " + c, k.removeCrossing(c), m.removeCrossing(c)); break;
            case 4: case 5: check.due(name + "kink " + x + " " + sign, k.kink(x, sign), m.kink(x, sign)); break;
            case 6: case 7: check.due(name + "poke " + x + " " + y, k.poke(x, y), m.poke(x, y)); break;
            default: check.due(name + "addCrossing " + x + " " + y + " " + z + " " + sign,
                    k.addCrossing(x, y, z, sign), m.addCrossing(x, y, z, sign)); break;
        }
    }

    private void askTable(String name) {
        int x = element();
        int y = element();
        int axiom = about(1, 3);
        int set = below(12) == 0 ? about(-1, 70) : below(1 << m.size());
        switch (below(7)) {
            case 0: check.due(name + "size", k.size(), m.size()); break;
            case 1: check.due(name + "product " + x + " " + y, k.product(x, y), m.product(x, y)); break;
            case 2: check.due(name + "quotient " + x + " " + y, k.quotient(x, y), m.quotient(x, y)); break;
            case 3: check.due(name + "violation " + axiom, k.violation(axiom), m.violation(axiom)); break;
            case 4: check.due(name + "reach " + x, k.reach(x), m.reach(x)); break;
            case 5: check.due(name + "closure " + set, k.closure(set), m.closure(set)); break;
            default: check.due(name + "tableComponents", k.tableComponents(), m.tableComponents()); break;
        }
    }

    private void askGroups(String name) {
        int y = element();
        switch (below(5)) {
            case 0: check.due(name + "generators", k.generators(), m.generators()); break;
            case 1: check.due(name + "translationOrder " + y, k.translationOrder(y), m.translationOrder(y)); break;
            case 2: check.due(name + "translations", k.translations(), m.translations()); break;
            case 3: check.due(name + "innerGroup", k.innerGroup(), m.innerGroup()); break;
            default: check.due(name + "automorphisms", k.automorphisms(), m.automorphisms()); break;
        }
    }

    private void askDiagram(String name) {
        int x = arc();
        int y = arc();
        int c = about(0, Math.max(0, m.crossings() - 1));
        int part = about(0, 3);
        switch (below(6)) {
            case 0: check.due(name + "arcs", k.arcs(), m.arcs()); break;
            case 1: check.due(name + "crossings", k.crossings(), m.crossings()); break;
            case 2: check.due(name + "crossing " + c + " " + part, k.crossing(c, part), m.crossing(c, part)); break;
            case 3: check.due(name + "components", k.components(), m.components()); break;
            case 4: check.due(name + "linking " + x + " " + y, k.linking(x, y), m.linking(x, y)); break;
            default: check.due(name + "writhe", k.writhe(), m.writhe()); break;
        }
    }

    private void askColourings(String name) {
        int x = arc();
        int y = arc();
        int c = element();
        int used = about(1, 6);
        int index = about(0, below(4) == 0 ? 300000 : 30);
        switch (below(5)) {
            case 0: check.due(name + "colourings", k.colourings(), m.colourings()); break;
            case 1: check.due(name + "colouringsWith " + x + " " + c,
                    k.colouringsWith(x, c), m.colouringsWith(x, c)); break;
            case 2: check.due(name + "colouringsAlike " + x + " " + y,
                    k.colouringsAlike(x, y), m.colouringsAlike(x, y)); break;
            case 3: check.due(name + "colouringsUsing " + used,
                    k.colouringsUsing(used), m.colouringsUsing(used)); break;
            default: check.due(name + "colour " + index + " " + x, k.colour(index, x), m.colour(index, x)); break;
        }
    }

    private void useText(String name) {
        switch (below(12)) {
            case 0: check.due(name + "read", k.read(), m.read()); break;
            case 1: case 2: check.due(name + "syntaxError", k.syntaxError(), m.syntaxError()); break;
            case 3: typeDiagram(name); break;
            case 4: clearAtTimes(name); break;
            default: typeOne(name, below(12) == 0 ? about(33, 126) : fittingSign()); break;
        }
    }

    private void clearAtTimes(String name) {
        if (below(4) == 0) {
            check.due(name + "clearText", k.clearText(), m.clearText());
        }
    }

    private void typeOne(String name, int code) {
        check.due(name + "type " + code, k.type(code), m.type(code));
    }

    private static int fittingSign() {
        return TEXT_SIGNS.charAt(below(TEXT_SIGNS.length()));
    }

    /** Types a diagram text, at times with a fault, and reads it. */
    private void typeDiagram(String name) {
        check.due(name + "clearText", k.clearText(), m.clearText());
        int number = 1 + below(11);
        int greatest = 1 + below(manyArcs ? 7 : 5);
        for (int c = 0; c < number; c++) {
            String between = c == 0 ? "" : ";";
            String crossing = between + below(greatest) + "," + below(greatest) + "," + below(greatest)
                    + (below(2) == 0 ? "+" : "-");
            for (int i = 0; i < crossing.length(); i++) {
                typeOne(name, below(150) == 0 ? fittingSign() : crossing.charAt(i));
            }
        }
        check.due(name + "syntaxError", k.syntaxError(), m.syntaxError());
        check.due(name + "read", k.read(), m.read());
    }
}
