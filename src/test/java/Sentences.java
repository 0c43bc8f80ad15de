/** Tests single sentences of the document, each under its own words and on workbenches of its own. */
final class Sentences {
    static final int NO_SUCH = -1;
    static final int BAD_VALUE = -2;
    static final int NOT_POSSIBLE = -3;
    static final int LIMIT = -4;
    static final int BAD_TEXT = -5;
    static final int NONE = -6;

    /** A diagram text of ten crossings: 69 characters. */
    static final String TEN = "0,0,0+;0,0,0+;0,0,0+;0,0,0+;0,0,0+;0,0,0+;0,0,0+;0,0,0+;0,0,0+;6,5,4-";
    /** What a refused call finds in the text, if the steps before it do not clear it. */
    private static final String TYPED = "0,1,2+";
    private static final int MOST_SAVED = 6;

    /** Calls that bring a workbench to where a sentence speaks of it. */
    interface Steps {
        void on(KnotColours k);
    }

    /** One call with a number that it gets from outside. */
    interface Call {
        long on(KnotColours k, int value);
    }

    private int tests = 0;
    private int broken = 0;
    private int asked = 0;
    private boolean holds = true;
    private String sentence = "";

    /** Runs the test of one sentence; it fails also if it throws or asks nothing. */
    void test(String words, Runnable steps) {
        sentence = words;
        asked = 0;
        holds = true;
        tests++;
        try {
            steps.run();
        } catch (RuntimeException thrown) {
            fail("threw " + thrown);
        }
        if (asked == 0) {
            fail("asked nothing");
        }
        if (!holds) {
            broken++;
        }
    }

    private void fail(String how) {
        holds = false;
        System.out.println(sentence + ": " + how);
    }

    void due(String call, long got, long want) {
        asked++;
        if (got != want) {
            fail(call + " answered " + got + ", due is " + want);
        }
    }

    void same(String what, String got, String want) {
        asked++;
        if (!got.equals(want)) {
            fail(what + " is " + got + ", due is " + want);
        }
    }

    /**
     * The call answers the code for each value and changes nothing: a twin that did not get the call
     * answers the same to all that follows. Tried with two, three and the most states saved before the steps.
     */
    void refused(String words, Steps before, int code, int[] values, Call call) {
        test(words, () -> {
            for (int value : values) {
                for (int more : new int[] {0, 1, MOST_SAVED}) {
                    KnotColours k = prepared(more, before);
                    due("the call with " + value, call.on(k, value), code);
                    sameInAll(k, prepared(more, before));
                }
            }
        });
    }

    /** As refused() for values, for a call that takes none. */
    void refused(String words, Steps before, int code, java.util.function.ToLongFunction<KnotColours> call) {
        refused(words, before, code, new int[] {0}, (k, value) -> call.applyAsLong(k));
    }

    /** The table, the diagram and the text are all such that a change of them would be seen. */
    private static KnotColours prepared(int more, Steps before) {
        KnotColours k = new KnotColours();
        k.linear(5, 2);
        k.standard(2);
        for (int i = 0; i < more; i++) {
            k.addCrossing(0, 1, 2, 1);
        }
        type(k, TYPED);
        before.on(k);
        return k;
    }

    /** Compares the table, the diagram, the text and all saved states; uses both workbenches up. */
    private void sameInAll(KnotColours k, KnotColours twin) {
        // digest() asks nearly all that can be asked, so it comes behind what one refused call could have changed
        same("the table then", tableOf(k), tableOf(twin));
        same("the diagram then", diagramOf(k), diagramOf(twin));
        due("syntaxError() then", k.syntaxError(), twin.syntaxError());
        for (int i = 0; i <= MOST_SAVED; i++) {
            due("undo() " + i + " then", k.undo(), twin.undo());
            due("digest() after undo() " + i, k.digest(), twin.digest());
        }
        due("read() then", k.read(), twin.read());
        same("the diagram of the text then", diagramOf(k), diagramOf(twin));
        due("clearText() then", k.clearText(), twin.clearText());
    }

    static void type(KnotColours k, String text) {
        for (int i = 0; i < text.length(); i++) {
            k.type(text.charAt(i));
        }
    }

    /** The products in rows: "021 210 102" for dihedral(3). */
    static String tableOf(KnotColours k) {
        StringBuilder rows = new StringBuilder();
        int size = k.size();
        for (int x = 0; x < size; x++) {
            rows.append(x == 0 ? "" : " ");
            for (int y = 0; y < size; y++) {
                rows.append(k.product(x, y));
            }
        }
        return rows.toString();
    }

    /** The arcs and the crossings: "3: 0,1,2+ 1,2,0+ 2,0,1+" for a trefoil. */
    static String diagramOf(KnotColours k) {
        StringBuilder parts = new StringBuilder().append(k.arcs()).append(':');
        int crossings = k.crossings();
        for (int c = 0; c < crossings; c++) {
            int sign = k.crossing(c, 3);
            parts.append(' ').append(k.crossing(c, 0)).append(',').append(k.crossing(c, 1)).append(',')
                    .append(k.crossing(c, 2)).append(sign == 1 ? "+" : sign == -1 ? "-" : "?");
        }
        return parts.toString();
    }

    /** Makes the table of such rows. */
    static void makeTable(KnotColours k, String rows) {
        String[] row = rows.split(" ");
        k.trivial(row.length);
        for (int x = 0; x < row.length; x++) {
            for (int y = 0; y < row.length; y++) {
                k.setProduct(x, y, row[x].charAt(y) - '0');
            }
        }
    }

    static KnotColours withTable(String rows) {
        KnotColours k = new KnotColours();
        makeTable(k, rows);
        return k;
    }

    /** Makes the diagram of such parts; "1:" has no crossings. */
    static void makeDiagram(KnotColours k, String parts) {
        k.newDiagram(parts.charAt(0) - '0');
        for (int at = 3; at < parts.length(); at += 7) {
            k.addCrossing(parts.charAt(at) - '0', parts.charAt(at + 2) - '0', parts.charAt(at + 4) - '0',
                    parts.charAt(at + 5) == '+' ? 1 : -1);
        }
    }

    static KnotColours withDiagram(String parts) {
        KnotColours k = new KnotColours();
        makeDiagram(k, parts);
        return k;
    }

    static KnotColours withText(String text) {
        KnotColours k = new KnotColours();
        type(k, text);
        return k;
    }

    /** The same crossing a number of times, as makeDiagram() takes it. */
    static String times(int number, String crossing) {
        return (" " + crossing).repeat(number);
    }

    /** Numbers below a least one, that itself not among them. */
    static int[] below(int least) {
        return new int[] {least - 1, least - 2, least - 256, Integer.MIN_VALUE + 1, Integer.MIN_VALUE};
    }

    /** Numbers above a greatest one, that itself not among them. */
    static int[] above(int greatest) {
        return new int[] {greatest + 1, greatest + 2, greatest + 256, greatest + 65536, Integer.MAX_VALUE};
    }

    /** Ends the test: with exit code 1 if a sentence is broken. */
    void end() {
        System.out.println(tests + " sentences tested, " + broken + " of them broken");
        if (broken != 0 || tests == 0) {
            System.exit(1);
        }
    }
}
