/** Promises 41 and 42 and the terms undo and error codes: each sentence that names a boundary case, by itself. */
public final class UndoBoundsTest {
    private static final int NOT_POSSIBLE = Sentences.NOT_POSSIBLE;
    private static final int NONE = Sentences.NONE;

    /** The calls that are marked Undoable, each so that it is done. */
    private static final String[] UNDOABLE = {"trivial", "dihedral", "linear", "transpositions", "setProduct", "invert",
        "newDiagram", "standard", "addCrossing", "removeCrossing", "kink", "poke", "read"};

    private static final Sentences s = new Sentences();

    public static void main(String[] args) {
        nothingSaved();
        mostSaved();
        saved();
        everyUndoable();
        notUndoable();
        digest();
        digestDependsOn();
        s.end();
    }

    /** Makes as many states as told, one behind the other; state i has i + 1 arcs, from 0 on. */
    private static KnotColours withSaved(int number) {
        KnotColours k = new KnotColours();
        for (int i = 1; i <= number; i++) {
            k.newDiagram(i + 1);
        }
        return k;
    }

    private static void undoAll(KnotColours k) {
        int left = k.undo();
        for (int i = 0; i < 10 && left > 0; i++) {
            left = k.undo();
        }
    }

    private static void nothingSaved() {
        s.refused("41: 'NOT_POSSIBLE if no state is saved', when all have been restored",
                UndoBoundsTest::undoAll, NOT_POSSIBLE, KnotColours::undo);
        s.test("41: 'NOT_POSSIBLE if no state is saved', of a new workbench", () -> {
            KnotColours k = new KnotColours();
            s.due("undo()", k.undo(), NOT_POSSIBLE);
            s.due("undo() again", k.undo(), NOT_POSSIBLE);
            s.due("digest()", k.digest(), new KnotColours().digest());
        });
        s.test("41: 'NOT_POSSIBLE if no state is saved', no longer when one is", () -> {
            KnotColours k = new KnotColours();
            k.undo();
            k.trivial(2);
            s.due("undo()", k.undo(), 0);
            s.due("size()", k.size(), 1);
        });
    }

    private static void mostSaved() {
        s.test("41: 'Returns the number of saved states that are left', from one", () -> {
            KnotColours k = withSaved(1);
            s.due("undo()", k.undo(), 0);
            s.due("arcs()", k.arcs(), 1);
            s.due("undo() again", k.undo(), NOT_POSSIBLE);
        });
        s.test("terms: 'At most 6 states are saved', six of them", () -> {
            KnotColours k = withSaved(6);
            for (int left = 5; left >= 0; left--) {
                s.due("undo()", k.undo(), left);
                s.due("arcs()", k.arcs(), left + 1);
            }
            s.due("a seventh undo()", k.undo(), NOT_POSSIBLE);
        });
        s.test("terms: 'when a seventh one is saved, the oldest one is discarded'", () -> {
            KnotColours k = new KnotColours();
            for (int size : new int[] {6, 5, 4, 3, 2, 1, 6}) {
                k.trivial(size);
            }
            int[] due = {1, 2, 3, 4, 5, 6};
            for (int i = 0; i < 6; i++) {
                s.due("undo()", k.undo(), 5 - i);
                s.due("size()", k.size(), due[i]);
            }
            s.due("a seventh undo()", k.undo(), NOT_POSSIBLE);
            s.due("size() then, of the second state", k.size(), 6);
        });
        s.test("terms: 'when a seventh one is saved, the oldest one is discarded', a hundred times", () -> {
            KnotColours k = new KnotColours();
            for (int i = 0; i < 100; i++) {
                k.trivial(1 + i % 6);
            }
            for (int i = 98; i >= 93; i--) {
                s.due("undo()", k.undo(), i - 93);
                s.due("size()", k.size(), 1 + i % 6);
            }
            s.due("a seventh undo()", k.undo(), NOT_POSSIBLE);
        });
        s.test("terms: 'At most 6 states are saved', when one has been restored there is room for one", () -> {
            KnotColours k = withSaved(6);
            s.due("undo()", k.undo(), 5);
            k.newDiagram(3);
            for (int left = 5; left >= 0; left--) {
                s.due("undo()", k.undo(), left);
                s.due("arcs()", k.arcs(), left + 1);
            }
            s.due("a seventh undo()", k.undo(), NOT_POSSIBLE);
        });
    }

    private static void saved() {
        s.test("41: 'and discards it from the saved states': undo takes back no undo", () -> {
            KnotColours k = withSaved(2);
            s.due("undo()", k.undo(), 1);
            s.due("undo()", k.undo(), 0);
            s.due("arcs()", k.arcs(), 1);
            s.due("undo()", k.undo(), NOT_POSSIBLE);
        });
        s.test("terms: 'The state is the table and the diagram', both come back", () -> {
            KnotColours k = new KnotColours();
            k.dihedral(5);
            k.standard(2);
            k.linear(6, 2);
            s.due("undo()", k.undo(), 2);
            s.same("the table", Sentences.tableOf(k), "02413 41302 30241 24130 13024");
            s.same("the diagram", Sentences.diagramOf(k), "4: 0,2,3+ 1,3,0- 2,0,1+ 3,1,2-");
            s.due("undo()", k.undo(), 1);
            s.same("the table", Sentences.tableOf(k), "02413 41302 30241 24130 13024");
            s.same("the diagram", Sentences.diagramOf(k), "1:");
        });
        s.test("terms: 'The state is the table and the diagram', the greatest ones", () -> {
            KnotColours k = new KnotColours();
            k.transpositions(4);
            Sentences.type(k, Sentences.TEN);
            k.read();
            k.trivial(1);
            k.newDiagram(1);
            k.undo();
            s.due("undo()", k.undo(), 2);
            s.same("the table", Sentences.tableOf(k), "034120 315012 452201 103354 240543 521435");
            s.same("the diagram", Sentences.diagramOf(k), "7:" + Sentences.times(9, "0,0,0+") + " 6,5,4-");
        });
        s.test("terms: 'The state is the table and the diagram', not the text", () -> {
            KnotColours k = new KnotColours();
            Sentences.type(k, "0,1");
            k.trivial(2);
            Sentences.type(k, ",2+");
            k.undo();
            s.due("syntaxError()", k.syntaxError(), NONE);
            s.due("clearText()", k.clearText(), 6);
            k.trivial(3);
            k.undo();
            s.due("clearText() again", k.clearText(), 0);
        });
        s.test("terms: 'save the state from before the call', also if the call changes nothing", () -> {
            KnotColours k = new KnotColours();
            k.trivial(1);
            k.setProduct(0, 0, 0);
            k.invert();
            k.newDiagram(1);
            k.standard(0);
            s.due("undo()", k.undo(), 4);
            s.due("digest()", k.digest(), new KnotColours().digest());
        });
    }

    private static void everyUndoable() {
        for (String name : UNDOABLE) {
            s.test("terms: 'Undoable', " + name, () -> {
                KnotColours k = prepared();
                long before = k.digest();
                call(k, name);
                s.due("digest() differs", k.digest() == before ? 1 : 0, 0);
                s.due("undo()", k.undo(), 2);
                s.due("digest() after undo()", k.digest(), before);
                s.due("undo() again", k.undo(), 1);
            });
            s.test("terms: 'when a seventh one is saved, the oldest one is discarded', by " + name, () -> {
                KnotColours k = withSaved(4);
                k.linear(5, 2);
                k.standard(2);
                Sentences.type(k, "0,1,2+");
                call(k, name);
                for (int left = 5; left >= 0; left--) {
                    s.due("undo()", k.undo(), left);
                }
                s.due("a seventh undo()", k.undo(), NOT_POSSIBLE);
                s.due("arcs() of the second state", k.arcs(), 2);
            });
        }
    }

    private static KnotColours prepared() {
        KnotColours k = new KnotColours();
        k.linear(5, 2);
        k.standard(2);
        Sentences.type(k, "0,1,2+");
        return k;
    }

    private static void call(KnotColours k, String name) {
        switch (name) {
            case "trivial": k.trivial(5); break;
            case "dihedral": k.dihedral(5); break;
            case "linear": k.linear(5, 3); break;
            case "transpositions": k.transpositions(4); break;
            case "setProduct": k.setProduct(4, 4, 0); break;
            case "invert": k.invert(); break;
            case "newDiagram": k.newDiagram(4); break;
            case "standard": k.standard(3); break;
            case "addCrossing": k.addCrossing(0, 1, 2, -1); break;
            case "removeCrossing": k.removeCrossing(3); break;
            case "kink": k.kink(3, 1); break;
            case "poke": k.poke(3, 0); break;
            default: k.read(); break;
        }
    }

    private static void notUndoable() {
        askingSavesNothing("tables", k -> {
            k.size();
            k.product(4, 4);
            k.quotient(4, 4);
            k.violation(3);
            k.reach(4);
            k.tableComponents();
            k.closure(3);
            k.generators();
            k.translationOrder(1);
            k.translations();
            k.innerGroup();
            k.automorphisms();
        });
        askingSavesNothing("diagrams", k -> {
            k.arcs();
            k.crossings();
            k.crossing(3, 3);
            k.components();
            k.writhe();
            k.linking(3, 0);
        });
        askingSavesNothing("colourings", k -> {
            k.colourings();
            k.colouringsWith(3, 4);
            k.colouringsAlike(0, 3);
            k.colouringsUsing(4);
            k.colour(4, 3);
            k.digest();
        });
        askingSavesNothing("text", k -> {
            k.syntaxError();
            k.type('0');
            k.clearText();
        });
    }

    private static void askingSavesNothing(String kind, Sentences.Steps calls) {
        s.test("terms: 'Methods marked \"Undoable\" save', no others: " + kind, () -> {
            KnotColours k = prepared();
            long before = k.digest();
            calls.on(k);
            s.due("digest()", k.digest(), before);
            s.due("undo()", k.undo(), 1);
            s.due("arcs()", k.arcs(), 1);
        });
    }

    private static long hash(long... values) {
        long hash = 3102;
        for (long value : values) {
            hash = 31 * hash + value;
        }
        return hash;
    }

    private static void digest() {
        s.test("42: 'The hash starts at 3102', the shortest list", () ->
            s.due("digest()", new KnotColours().digest(),
                    hash(1, 0, NONE, NONE, NONE, 1, 1, 1, 1, 1, 1, 0, 1, 100, 1, 1, 0, 0, 0, 0, 0)));
        s.test("42: 'in long arithmetic with overflow', the longest list", () -> {
            KnotColours k = new KnotColours();
            k.trivial(6);
            Sentences.makeDiagram(k, "7:" + Sentences.times(10, "6,5,4-"));
            s.due("digest()", k.digest(), hash(6, 0, 0, 0, 0, 0, 0, 1, 1, 1, 1, 1, 1, 2, 2, 2, 2, 2, 2,
                    3, 3, 3, 3, 3, 3, 4, 4, 4, 4, 4, 4, 5, 5, 5, 5, 5, 5, NONE, NONE, NONE, 6, 6, 1, 1, 720, 7, 10,
                    6, 5, 4, -1, 6, 5, 4, -1, 6, 5, 4, -1, 6, 5, 4, -1, 6, 5, 4, -1,
                    6, 5, 4, -1, 6, 5, 4, -1, 6, 5, 4, -1, 6, 5, 4, -1, 6, 5, 4, -1,
                    NONE, 90, 46656, 6, 930, 10800, 23400, 10800, 720));
        });
        s.test("42: the list has NONE, too, where the calls answer it", () -> {
            KnotColours k = Sentences.withTable("11 11");
            Sentences.makeDiagram(k, "1: 0,0,0+ 0,0,0+");
            s.due("digest()", k.digest(), hash(2, 1, 1, 1, 1, 0, 0, NONE, 1, 1, 1, NONE, 1, 1, 2,
                    0, 0, 0, 1, 0, 0, 0, 1, NONE, 102, 1, 1, 0, 0, 0, 0, 0));
        });
    }

    private static void digestDependsOn() {
        s.test("42: 'a hash of the state': not of the text", () -> {
            KnotColours k = prepared();
            long before = k.digest();
            k.clearText();
            s.due("digest()", k.digest(), before);
        });
        s.test("42: 'a hash of the state': not of the saved states", () -> {
            KnotColours k = withSaved(6);
            k.newDiagram(1);
            s.due("digest()", k.digest(), new KnotColours().digest());
        });
        s.test("42: 'all products x * y, ordered by x and then by y'", () -> {
            KnotColours k = Sentences.withTable("01 01");
            s.due("digest()", k.digest(), hash(2, 0, 1, 0, 1, NONE, 0, NONE, 1, 2, 2, NONE, 2, 1, 0, 1, 100,
                    2, 2, 0, 0, 0, 0, 0));
        });
    }
}
