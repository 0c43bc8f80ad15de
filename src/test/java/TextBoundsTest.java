/** Promises 37 to 40 and the term text: each sentence that names a boundary case, by itself. */
public final class TextBoundsTest {
    private static final int BAD_VALUE = Sentences.BAD_VALUE;
    private static final int NOT_POSSIBLE = Sentences.NOT_POSSIBLE;
    private static final int LIMIT = Sentences.LIMIT;
    private static final int BAD_TEXT = Sentences.BAD_TEXT;
    private static final int NONE = Sentences.NONE;
    private static final String TEN = Sentences.TEN;

    private static final Sentences s = new Sentences();

    public static void main(String[] args) {
        type();
        typeRefused();
        clearText();
        syntaxError();
        syntaxErrorOfParts();
        syntaxErrorOfTen();
        read();
        readRefused();
        s.end();
    }

    private static int errorOf(String text) {
        return Sentences.withText(text).syntaxError();
    }

    private static void error(String text, int due) {
        s.due("syntaxError() of " + text, errorOf(text), due);
    }

    /** Makes the text. */
    private static Sentences.Steps text(String text) {
        return k -> {
            k.clearText();
            Sentences.type(k, text);
        };
    }

    private static void type() {
        s.test("terms: 'which is empty initially'", () -> {
            s.due("clearText()", new KnotColours().clearText(), 0);
            s.due("type('0')", new KnotColours().type('0'), 1);
        });
        s.test("terms: 'a text of at most 70 characters', 70 and no more", () -> {
            KnotColours k = Sentences.withText("x".repeat(69));
            s.due("type('x')", k.type('x'), 70);
            s.due("type('x') then", k.type('x'), LIMIT);
            s.due("clearText()", k.clearText(), 70);
        });
        s.test("37: 'character code, 33 to 126', the least", () ->
            s.due("type(33)", new KnotColours().type(33), 1));
        s.test("37: 'character code, 33 to 126', the greatest", () ->
            s.due("type(126)", new KnotColours().type(126), 1));
        s.test("37: 'Returns the new length of the text', up to 70", () -> {
            KnotColours k = new KnotColours();
            for (int length = 1; length <= 70; length++) {
                s.due("type('0')", k.type('0'), length);
            }
            s.due("clearText()", k.clearText(), 70);
        });
        s.test("37: 'LIMIT if the text has 70 characters', no longer when it is empty again", () -> {
            KnotColours k = Sentences.withText(TEN + "x");
            k.clearText();
            s.due("type('0')", k.type('0'), 1);
        });
        s.test("37: not marked as Undoable: type saves no state", () -> {
            KnotColours k = Sentences.withText(TEN);
            s.due("undo()", k.undo(), NOT_POSSIBLE);
            s.due("clearText()", k.clearText(), 69);
        });
    }

    private static void typeRefused() {
        s.refused("37: 'BAD_VALUE if code is out of range', too small", k -> k.standard(1),
                BAD_VALUE, Sentences.below(33), KnotColours::type);
        s.refused("37: 'BAD_VALUE if code is out of range', too large", k -> k.standard(1),
                BAD_VALUE, Sentences.above(126), KnotColours::type);
        s.refused("37: 'BAD_VALUE if code is out of range', one that is in range as a char", k -> k.standard(1),
                BAD_VALUE, new int[] {65536 + '0', 256 + '0', '0' - 65536, 0, '\n', ' '}, KnotColours::type);
        s.refused("37: 'LIMIT if the text has 70 characters'", text(TEN + "x"),
                LIMIT, new int[] {33, '0', 126}, KnotColours::type);
        s.refused("terms: 'the one that is named first': 37, BAD_VALUE before LIMIT", text(TEN + "x"),
                BAD_VALUE, new int[] {32, 127, Integer.MIN_VALUE, Integer.MAX_VALUE}, KnotColours::type);
    }

    private static void clearText() {
        s.test("38: 'Returns the previous length of the text', of the empty text", () -> {
            KnotColours k = new KnotColours();
            s.due("clearText()", k.clearText(), 0);
            s.due("clearText() again", k.clearText(), 0);
        });
        s.test("38: 'Returns the previous length of the text', of a full one", () ->
            s.due("clearText()", Sentences.withText(TEN + "x").clearText(), 70));
        s.test("38: 'Makes the text empty'", () -> {
            KnotColours k = Sentences.withText("x");
            k.clearText();
            s.due("clearText()", k.clearText(), 0);
            s.due("syntaxError()", k.syntaxError(), 0);
            Sentences.type(k, "0,0,0+");
            s.due("syntaxError() of another", k.syntaxError(), NONE);
        });
        s.test("38: not marked as Undoable: clearText saves no state", () -> {
            KnotColours k = Sentences.withText("0");
            k.clearText();
            s.due("undo()", k.undo(), NOT_POSSIBLE);
        });
    }

    private static void syntaxError() {
        s.test("39: 'the length of the text' ('this holds for the empty text')", () -> {
            error("", 0);
            KnotColours k = Sentences.withText("0,0,0+");
            k.clearText();
            s.due("syntaxError() of the emptied text", k.syntaxError(), 0);
        });
        s.test("39: 'the index of the first character', the first one", () -> {
            for (String first : new String[] {"x", "7", "/", ",", ";", "+", "-", "!", "~"}) {
                error(first, 0);
                error(first + ",0,0+", 0);
            }
        });
        s.test("39: 'the index of the first character', the last one", () -> {
            error("0,0,0x", 5);
            error("0,0,0+;0,0,0x", 12);
        });
        s.test("39: 'the index of the first character', if several are wrong", () ->
            error("0,x,x+;x", 2));
        s.test("39: 'the characters of the text up to and including this one': those behind it do not count", () ->
            error("0;0,0+", 1));
        s.test("39: 'the length of the text if there is no such character but the text is not a diagram text'", () -> {
            for (int length = 1; length < 6; length++) {
                error("0,0,0+".substring(0, length), length);
                error("6,5,4-;" + "0,0,0+".substring(0, length), 7 + length);
            }
        });
        s.test("39: 'the length of the text', if it ends with ;", () ->
            error("0,0,0+;", 7));
        s.test("39: 'NONE if the text is a diagram text', the shortest", () ->
            error("0,0,0+", NONE));
        s.test("39: the text stays", () -> {
            KnotColours k = Sentences.withText("0,0,0+");
            k.syntaxError();
            s.due("syntaxError() again", k.syntaxError(), NONE);
            s.due("clearText()", k.clearText(), 6);
        });
    }

    private static void syntaxErrorOfParts() {
        s.test("terms: 'an arc is one of the characters 0 to 6', the first and the last", () -> {
            error("0,0,0+", NONE);
            error("6,6,6+", NONE);
        });
        s.test("terms: 'an arc is one of the characters 0 to 6', those beside them", () -> {
            for (String arc : new String[] {"/", "7"}) {
                error(arc + ",0,0+", 0);
                error("0," + arc + ",0+", 2);
                error("0,0," + arc + "+", 4);
                error("0,0,0+;" + arc + ",0,0+", 7);
            }
        });
        s.test("terms: 'an arc is one of the characters', not two", () -> {
            error("00,0,0+", 1);
            error("0,0,00", 5);
        });
        s.test("terms: 'arc \",\" arc \",\" arc sign', no comma before the sign", () ->
            error("0,0,0,+", 5));
        s.test("terms: 'arc \",\" arc \",\" arc sign', the characters beside the comma", () -> {
            error("0+0,0+", 1);
            error("0-0,0+", 1);
            error("0,0+0+", 3);
            error("0,0-0+", 3);
        });
        s.test("terms: 'a sign is \"+\" or \"-\"', and those beside them", () -> {
            error("0,0,0-", NONE);
            error("0,0,0*", 5);
            error("0,0,0,", 5);
            error("0,0,0.", 5);
        });
        s.test("terms: 'crossing { \";\" crossing }', the characters beside the ;", () -> {
            error("0,0,0+:", 6);
            error("0,0,0+<", 6);
            error("0,0,0+0", 6);
        });
        s.test("terms: 'crossing { \";\" crossing }', nothing ahead of the first and no ; twice", () -> {
            error(";0,0,0+", 0);
            error("0,0,0+;;", 7);
        });
    }

    private static void syntaxErrorOfTen() {
        s.test("terms: 'with at most 10 crossings', ten", () ->
            error(TEN, NONE));
        s.test("terms: 'with at most 10 crossings', nine and the tenth begun", () -> {
            error(TEN.substring(0, 62), NONE);
            error(TEN.substring(0, 63), 63);
            error(TEN.substring(0, 68), 68);
        });
        s.test("terms: 'a \";\" behind the tenth crossing is a syntax error'", () ->
            error(TEN + ";", 69));
        s.test("39: 'the index of the first character', the last of 70", () -> {
            error(TEN + "0", 69);
            error(TEN + "+", 69);
        });
        s.test("39: 'the index of the first character', the first of 70", () ->
            error("x".repeat(70), 0));
        s.test("39: 'the index of the first character', one ahead of the last of 70", () ->
            error(TEN.substring(0, 68) + "x;", 68));
    }

    private static void readsAs(String text, int arcs, String diagram) {
        KnotColours k = Sentences.withText(text);
        s.due("read() of " + text, k.read(), arcs);
        s.same("the diagram", Sentences.diagramOf(k), diagram);
    }

    private static void read() {
        s.test("40: 'as many arcs as the greatest arc of the text demands (this arc plus 1)', the least", () -> {
            KnotColours k = Sentences.withText("0,0,0+");
            k.newDiagram(7);
            s.due("read()", k.read(), 1);
            s.same("the diagram", Sentences.diagramOf(k), "1: 0,0,0+");
        });
        s.test("40: 'as many arcs as the greatest arc of the text demands (this arc plus 1)', the greatest", () ->
            readsAs("6,6,6-", 7, "7: 6,6,6-"));
        s.test("40: 'the greatest arc of the text', an over-arc, an in-arc and an out-arc", () -> {
            readsAs("3,0,1+", 4, "4: 3,0,1+");
            readsAs("0,3,1+", 4, "4: 0,3,1+");
            readsAs("0,1,3+", 4, "4: 0,1,3+");
        });
        s.test("40: 'the greatest arc of the text', in the first and in the last crossing", () -> {
            readsAs("5,0,0+;0,1,1-", 6, "6: 5,0,0+ 0,1,1-");
            readsAs("0,1,1-;0,0,0+;0,5,0+", 6, "6: 0,1,1- 0,0,0+ 0,5,0+");
        });
        s.test("40: 'with the crossings of the text, in their order', ten", () -> {
            KnotColours k = Sentences.withText("6,5,4+;0,1,2-;0,0,0+;1,0,0+;2,0,0+;3,0,0+;4,0,0+;5,0,0+;6,0,0+;1,2,3-");
            s.due("read()", k.read(), 7);
            s.same("the diagram", Sentences.diagramOf(k),
                    "7: 6,5,4+ 0,1,2- 0,0,0+ 1,0,0+ 2,0,0+ 3,0,0+ 4,0,0+ 5,0,0+ 6,0,0+ 1,2,3-");
        });
        s.test("40: 'Makes a diagram', whatever was there: a full one", () -> {
            KnotColours k = Sentences.withDiagram("7:" + Sentences.times(10, "6,5,4+"));
            Sentences.type(k, "0,1,1-");
            s.due("read()", k.read(), 2);
            s.same("the diagram", Sentences.diagramOf(k), "2: 0,1,1-");
        });
        s.test("40: 'The text becomes empty'", () -> {
            KnotColours k = Sentences.withText(TEN);
            k.read();
            s.due("syntaxError()", k.syntaxError(), 0);
            s.due("read() again", k.read(), BAD_TEXT);
            s.due("clearText()", k.clearText(), 0);
        });
        s.test("40: 'Undoable', and the text is no part of the state", () -> {
            KnotColours k = Sentences.withText("0,1,2+");
            k.standard(4);
            k.read();
            s.due("undo()", k.undo(), 1);
            s.same("the diagram", Sentences.diagramOf(k), "2: 0,1,1+ 1,0,0+");
            s.due("clearText()", k.clearText(), 0);
        });
    }

    private static void readRefused() {
        s.refused("40: 'BAD_TEXT if the text is not a diagram text (then the text stays)', the empty text",
                text(""), BAD_TEXT, KnotColours::read);
        s.refused("40: 'BAD_TEXT if the text is not a diagram text (then the text stays)', a wrong character at the end",
                text("0,1,2x"), BAD_TEXT, KnotColours::read);
        s.refused("40: 'BAD_TEXT if the text is not a diagram text (then the text stays)', one that only begins",
                text("0,1,2"), BAD_TEXT, KnotColours::read);
        s.refused("40: 'BAD_TEXT if the text is not a diagram text (then the text stays)', ; at the end",
                text("0,1,2+;"), BAD_TEXT, KnotColours::read);
        s.refused("40: 'BAD_TEXT if the text is not a diagram text (then the text stays)', an arc too high",
                text("0,1,2+;0,7,0+"), BAD_TEXT, KnotColours::read);
        s.refused("40: 'BAD_TEXT if the text is not a diagram text (then the text stays)', ; behind ten",
                text(TEN + ";"), BAD_TEXT, KnotColours::read);
        s.test("40: '(then the text stays)': it can be ended and read", () -> {
            KnotColours k = Sentences.withText("0,1,2");
            s.due("read()", k.read(), BAD_TEXT);
            k.type('-');
            s.due("read() then", k.read(), 3);
            s.same("the diagram", Sentences.diagramOf(k), "3: 0,1,2-");
        });
    }
}
