/** Promises 37 to 40: the text. */
public final class TextTest {
    private static final int BAD_VALUE = -2;
    private static final int LIMIT = -4;
    private static final int BAD_TEXT = -5;
    private static final int NOT_POSSIBLE = -3;
    private static final int NONE = -6;
    private static final int LOW = Integer.MIN_VALUE;
    private static final int HIGH = Integer.MAX_VALUE;
    private static final String TEN = "0,0,0+;0,0,0+;0,0,0+;0,0,0+;0,0,0+;0,0,0+;0,0,0+;0,0,0+;0,0,0+;6,5,4-";

    private static final Check check = new Check();

    public static void main(String[] args) {
        type();
        clearText();
        syntaxError();
        everyCharacter();
        read();
        readChangesNothing();
        check.end();
    }

    private static KnotColours with(String text) {
        KnotColours k = new KnotColours();
        typeAll(k, text);
        return k;
    }

    private static void typeAll(KnotColours k, String text) {
        for (int i = 0; i < text.length(); i++) {
            k.type(text.charAt(i));
        }
    }

    private static void type() {
        KnotColours k = new KnotColours();
        for (int code : new int[] {32, 127, 0, -1, 10, 256 + 48, LOW, HIGH}) {
            check.due("37: type(" + code + ")", k.type(code), BAD_VALUE);
        }
        check.due("37: type(33)", k.type(33), 1);
        check.due("37: type(126)", k.type(126), 2);
        check.due("37: type(65)", k.type(65), 3);
        for (int length = 4; length <= 70; length++) {
            check.due("37: type(48)", k.type(48), length);
        }
        check.due("37: a 71st character", k.type(48), LIMIT);
        check.due("37: a 71st character out of range", k.type(32), BAD_VALUE);
        check.due("37: the length", k.clearText(), 70);
        check.due("37: type(48) then", k.type(48), 1);
        check.due("37: undo(), since type saves nothing", k.undo(), NOT_POSSIBLE);
    }

    private static void clearText() {
        KnotColours k = with("0,0");
        check.due("38: clearText()", k.clearText(), 3);
        check.due("38: clearText() again", k.clearText(), 0);
        check.due("38: syntaxError()", k.syntaxError(), 0);
        check.due("38: undo(), since clearText saves nothing", k.undo(), NOT_POSSIBLE);
    }

    private static void syntaxError() {
        check.due("39: the empty text", with("").syntaxError(), 0);
        for (int length = 1; length <= TEN.length(); length++) {
            int due = length % 7 == 6 ? NONE : length;
            check.due("39: the first " + length, with(TEN.substring(0, length)).syntaxError(), due);
        }
        check.due("39: ; behind ten", with(TEN + ";").syntaxError(), 69);
        check.due("39: another crossing's arc behind ten", with(TEN + "0").syntaxError(), 69);
        check.due("39: the first of two errors", with("0,7,8+").syntaxError(), 2);
        check.due("39: an error at the end", with("0,1,2+;x").syntaxError(), 7);
        check.due("39: an error with right ones behind it", with("0;1,2+").syntaxError(), 1);
        check.due("39: a sign too many", with("0,1,2++").syntaxError(), 6);
        check.due("39: a comma before the sign", with("0,1,2,+").syntaxError(), 5);
    }

    /** Puts every character at each place of the second crossing. */
    private static void everyCharacter() {
        String[] allowed = {"0123456", ",", "0123456", ",", "0123456", "+-", ";"};
        for (int place = 0; place < 7; place++) {
            for (int code = 33; code <= 126; code++) {
                String text = "6,5,4-;" + "3,2,1+;".substring(0, place) + (char) code;
                int due = 7 + place;
                if (allowed[place].indexOf(code) >= 0) {
                    due = place == 5 ? NONE : due + 1;
                }
                check.due("39: " + text, with(text).syntaxError(), due);
            }
        }
    }

    private static void read() {
        KnotColours k = with("0,3,4+;6,1,2-");
        k.standard(1);
        check.due("40: read()", k.read(), 7);
        check.due("40: crossings()", k.crossings(), 2);
        int[] due = {0, 3, 4, 1, 6, 1, 2, -1};
        for (int i = 0; i < due.length; i++) {
            check.due("40: crossing(" + i / 4 + ", " + i % 4 + ")", k.crossing(i / 4, i % 4), due[i]);
        }
        check.due("40: clearText()", k.clearText(), 0);
        check.due("40: undo()", k.undo(), 1);
        check.due("40: crossings() after undo", k.crossings(), 3);
        check.due("40: the text after undo", k.clearText(), 0);
        check.due("40: arcs by the over-arc", with("3,0,0+").read(), 4);
        check.due("40: arcs by the in-arc", with("0,5,0+").read(), 6);
        check.due("40: arcs by the out-arc", with("0,0,2+").read(), 3);
        check.due("40: arcs by a later crossing", with("0,0,2+;4,1,1-;0,0,0+").read(), 5);
        check.due("40: one arc", with("0,0,0-").read(), 1);
        KnotColours ten = with(TEN);
        check.due("40: ten crossings", ten.read(), 7);
        check.due("40: crossings() of ten", ten.crossings(), 10);
        check.due("40: crossing(9, 0)", ten.crossing(9, 0), 6);
        check.due("40: crossing(9, 3)", ten.crossing(9, 3), -1);
        check.due("40: crossing(8, 3)", ten.crossing(8, 3), 1);
        check.due("40: read() of the empty text then", ten.read(), BAD_TEXT);
    }

    private static void readChangesNothing() {
        for (String text : new String[] {"", "0", "0,0,0", "0,0,0+;", "7,0,0+", TEN + ";", "0,0,0+0"}) {
            KnotColours k = with(text);
            k.standard(1);
            check.due("40: read() of " + text, k.read(), BAD_TEXT);
            check.due("40: crossings() then", k.crossings(), 3);
            check.due("40: the text then", k.clearText(), text.length());
            check.due("40: undo() then", k.undo(), 0);
        }
    }
}
