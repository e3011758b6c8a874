/** The boundary cases of "TEXTS" and of promises 3, 11 and 12; each test names the sentence that it is for. */
public final class TextEdgeTests {
    private static final String SIGNS = "+--+-++-+";
    private static final char[] NEVER = {'x', '*', '.', '/', '0', ' ', '\n', 0, '+' + 128, 255, '+' + 256, '-' + 256,
        ',' + 256, 65535};
    private static final Due D = new Due();

    public static void main(String[] args) {
        emptyAtFirst();
        atMost60Characters();
        fullTextIsRefused();
        fullTextIsKept();
        anyCharacter();
        behindTheText();
        clearTheEmptyAndTheFull();
        clearTextIsNoAct();
        typeIsNoAct();
        eachShape();
        eachTextThatEndsEarly();
        charactersThatAreNeverAllowed();
        whichCharactersAreAllowed();
        rowsFrom1To3();
        inAllColumnsAsMany();
        commasBetweenTwo();
        columnsFrom1To10();
        theFirstFaultIsTold();
        allShortTexts();
        theFaultOfAFullText();
        faultsChangeNothing();
        theTextStays();
        theTextIsNotOfTheState();
        aRingIfItWasOne();
        allFieldsAre0();
        pullsStay();
        readIsAnAct();
        oneTextAfterAnother();
        allStripsAreThoseOfTheText();
        D.end();
    }

    private static SpinStrips typed(String text) {
        SpinStrips x = new SpinStrips();
        Due.typeAll(x, text);
        return x;
    }

    private static SpinStrips busyWith(String text) {
        SpinStrips x = Starts.busy();
        x.clearText();
        Due.typeAll(x, text);
        return x;
    }

    private static int fault(String text) {
        return -1100 - typed(text).read();
    }

    private static String times(int many, String one) {
        return one.repeat(many);
    }

    /** A text of a strip of that size, with spins of both kinds. */
    private static String textOf(int columns, int rows) {
        StringBuilder text = new StringBuilder();
        for (int cell = 0; cell < columns * rows; cell++) {
            text.append(cell > 0 && cell % rows == 0 ? "," : "").append(SIGNS.charAt(cell * 4 % SIGNS.length()));
        }
        return text.toString();
    }

    private static void emptyAtFirst() {
        D.due("Terms: a text, empty at first: its length", new SpinStrips().count(16), 0);
        D.due("Terms: a text, empty at first: cleared", new SpinStrips().clearText(), 0);
        D.refused("Terms: a text, empty at first: read", Starts::fresh, SpinStrips::read, -1100);
        D.due("Terms: a text, empty at first: the first character", new SpinStrips().type('+'), 1);
    }

    private static void atMost60Characters() {
        SpinStrips x = new SpinStrips();
        for (int length = 1; length <= 60; length++) {
            D.due("11: returns the length of the text then", x.type(','), length);
            D.due("22: the length of the text", x.count(16), length);
        }
        D.due("11: FULL if it has 60 characters", x.type(','), -1003);
        D.due("11: FULL if it has 60 characters: the length stays", x.count(16), 60);
        D.due("12: returns the length that it had", x.clearText(), 60);
        for (int length = 1; length <= 60; length++) {
            D.due("11: 60 characters once more", x.type('+'), length);
        }
        D.due("11: FULL once more", x.type('+'), -1003);
    }

    private static void fullTextIsRefused() {
        for (char c : new char[] {'+', '-', ',', 'x', 0, 255, 256, 65535}) {
            D.refused("11: FULL: type(" + (int) c + ")", () -> typed(times(60, "+")), x -> x.type(c), -1003);
            D.refused("11: FULL of a busy one: type(" + (int) c + ")", () -> busyWith(times(60, ",")), x -> x.type(c), -1003);
        }
        D.due("11: 59 characters are not full", typed(times(59, "x")).type('x'), 60);
    }

    private static void fullTextIsKept() {
        SpinStrips x = typed("+-," + times(57, "+"));
        x.type('-');
        D.due("11: a call that returns FULL changes nothing: its fault", x.read(), -1100 - 5);
        D.due("11: a call that returns FULL changes nothing: its length", x.clearText(), 60);
    }

    private static void anyCharacter() {
        SpinStrips x = new SpinStrips();
        for (int c = 0; c <= 65535; c++) {
            if (c % 60 == 0) {
                x = new SpinStrips();
            }
            if (x.type((char) c) != c % 60 + 1) {
                D.due("11: any character: " + c, 0, 1);
            }
        }
        D.due("11: any character: the last ones", x.count(16), 65536 % 60);
    }

    private static void behindTheText() {
        for (String text : new String[] {"+-", "-+", "+--", "-+-", "--+", "+,-", "-,+", "+-,-+,--"}) {
            SpinStrips x = typed(text);
            x.read();
            D.dueSpins("11: types a character behind the text: " + text, x, text);
        }
        SpinStrips x = typed("+");
        D.due("11: behind the text: one row", x.read(), 1);
        x.type('-');
        D.due("11: behind the text: two rows", x.read(), 2);
        x.type(',');
        D.due("11: behind the text: a column begins", x.read(), -1103);
        Due.typeAll(x, "+-");
        D.due("11: behind the text: two columns", x.read(), 4);
    }

    private static void clearTheEmptyAndTheFull() {
        for (int length = 0; length <= 60; length++) {
            SpinStrips x = typed(times(length, "+"));
            D.due("12: returns the length that it had", x.clearText(), length);
            D.due("12: empties the text", x.count(16), 0);
            D.due("12: empties the text, read", x.read(), -1100);
            D.due("12: empties the text, again", x.clearText(), 0);
            x.type('-');
            D.due("12: what was there does not come back", x.read(), 1);
            D.dueSpins("12: what was there does not come back", x, "-");
        }
    }

    private static void clearTextIsNoAct() {
        SpinStrips x = Starts.busy();
        String state = Look.state(x);
        D.due("12: clearText() of a busy one", x.clearText(), 4);
        D.dueText("12: the state stays", Look.state(x), state);
        Due.typeAll(x, "+-,x");
        D.dueText("12: history and snapshot stay", Look.through(x), Look.through(Starts.busy()));
        D.dueText("12: clearText() of the empty changes nothing", Look.through(cleared()), Look.through(new SpinStrips()));
    }

    private static SpinStrips cleared() {
        SpinStrips x = new SpinStrips();
        x.clearText();
        return x;
    }

    private static void typeIsNoAct() {
        SpinStrips x = Starts.busy();
        String state = Look.state(x);
        x.type('+');
        x.type('-');
        D.dueText("11: the state stays", Look.state(x), state);
        D.due("11: the history stays", x.count(15), 4);
        x.clearText();
        Due.typeAll(x, "+-,x");
        D.dueText("11: history and snapshot stay", Look.through(x), Look.through(Starts.busy()));
        D.due("11: no act of a new object", typed("+").count(15), 0);
    }

    private static void eachShape() {
        for (int columns = 1; columns <= 10; columns++) {
            for (int rows = 1; rows <= 3; rows++) {
                String text = textOf(columns, rows);
                SpinStrips x = Starts.busy();
                x.clearText();
                Due.typeAll(x, text);
                D.due("3: how many cells it has: " + text, x.read(), columns * rows);
                D.due("3: columns of " + text, x.count(0), columns);
                D.due("3: rows of " + text, x.count(1), rows);
                D.dueSpins("3: makes the strip that of the text", x, text);
                for (String sign : new String[] {"+", "-"}) {
                    String same = text.replaceAll("[+-]", sign.equals("+") ? "+" : "-");
                    SpinStrips y = typed(same);
                    D.due("3: spins of one kind: " + same, y.read(), columns * rows);
                    D.due("3: spins of one kind, up: " + same, y.count(5), sign.equals("+") ? columns * rows : 0);
                }
            }
        }
    }

    private static void eachTextThatEndsEarly() {
        for (int columns = 1; columns <= 10; columns++) {
            for (int rows = 1; rows <= 3; rows++) {
                String text = textOf(columns, rows);
                for (int length = 0; length < text.length(); length++) {
                    int behind = length % (rows + 1);
                    boolean inFirst = length > 0 && length <= rows;
                    boolean whole = behind == rows || inFirst;
                    int cells = inFirst ? length : (length + 1) / (rows + 1) * rows;
                    String part = text.substring(0, length);
                    D.due("3: the length of the text if it ends too early: '" + part + "'", typed(part).read(),
                            whole ? cells : -1100 - length);
                }
            }
        }
    }

    private static void charactersThatAreNeverAllowed() {
        for (int columns : new int[] {1, 2, 3, 9, 10}) {
            for (int rows = 1; rows <= 3; rows++) {
                String text = textOf(columns, rows);
                for (int index = 0; index <= text.length(); index++) {
                    for (char c : NEVER) {
                        String wrong = text.substring(0, index) + c + text.substring(Math.min(index + 1, text.length()));
                        D.due("Terms: the index of the first character that is not allowed: " + (int) c + " at " + index
                                + " of " + text, fault(wrong), index);
                    }
                }
            }
        }
    }

    /** Which of all characters are allowed behind a beginning; each other one is a fault there. */
    private static void dueAllowed(String begin, String allowed) {
        SpinStrips x = new SpinStrips();
        int calls = 0;
        for (int c = 0; c <= 65535; c++) {
            if (calls > 400) {
                x = new SpinStrips();
                calls = 0;
            }
            x.clearText();
            Due.typeAll(x, begin);
            x.type((char) c);
            calls += begin.length() + 3;
            boolean refused = x.read() == -1100 - begin.length();
            if (refused != (allowed.indexOf((char) c) < 0)) {
                D.due("Terms: allowed behind '" + begin + "': " + c, refused ? 0 : 1, refused ? 1 : 0);
            }
        }
        D.due("Terms: allowed behind '" + begin + "': all looked at", calls > 0 ? 1 : 0, 1);
    }

    private static void whichCharactersAreAllowed() {
        dueAllowed("", "+-");
        dueAllowed("+", "+-,");
        dueAllowed("+-", "+-,");
        dueAllowed("+--", ",");
        dueAllowed("+,", "+-");
        dueAllowed("+,-", ",");
        dueAllowed("+-,-", "+-");
        dueAllowed("-,-,-,-,-,-,-,-,-,-", "");
    }

    private static void rowsFrom1To3() {
        String sentence = "Terms: as many as there are rows, 1 to 3: ";
        D.due(sentence + "none", fault(",+"), 0);
        D.due(sentence + "none at all", fault(","), 0);
        D.due(sentence + "1", typed("-").read(), 1);
        D.due(sentence + "3", typed("-+-").read(), 3);
        D.due(sentence + "4", fault("-+-+"), 3);
        D.due(sentence + "4, with more columns", fault("-+-+,-+-+"), 3);
        D.due(sentence + "10", fault("----------"), 3);
    }

    private static void inAllColumnsAsMany() {
        for (int rows = 1; rows <= 3; rows++) {
            for (int other = 0; other <= 4; other++) {
                for (int column = 1; column < 10; column++) {
                    if (other != rows) {
                        String whole = times(column, times(rows, "+") + ",");
                        int index = whole.length() + Math.min(rows, other);
                        String sentence = "Terms: in all columns as many: " + other + " in place of " + rows + ", column " + column;
                        String more = whole + times(other, "-");
                        D.due(sentence, fault(more), index);
                        D.due(sentence + ", then a comma", fault(more + ","), index);
                    }
                }
            }
        }
    }

    private static void commasBetweenTwo() {
        String sentence = "Terms: with \",\" between two: ";
        D.due(sentence + "ahead of the first", fault(",++"), 0);
        D.due(sentence + "behind the last", fault("++,"), 3);
        D.due(sentence + "two of them", fault("++,,++"), 3);
        D.due(sentence + "two of them behind one row", fault("+,,"), 2);
        D.due(sentence + "behind the last of three", fault("+++,---,+++,"), 12);
        D.due(sentence + "none", fault("+++---"), 3);
        D.due(sentence + "another sign", fault("++;--"), 2);
        D.due(sentence + "a blank behind it", fault("++, --"), 3);
        D.due(sentence + "a blank at the end", fault("++,-- "), 5);
    }

    private static void columnsFrom1To10() {
        for (int rows = 1; rows <= 3; rows++) {
            String ten = textOf(10, rows);
            String nine = textOf(9, rows);
            int end = ten.length();
            String of = "Terms: 1 to 10 columns: " + rows + " rows, ";
            D.due(of + "1", typed(textOf(1, rows)).read(), rows);
            D.due(of + "9", typed(nine).read(), 9 * rows);
            D.due(of + "10", typed(ten).read(), 10 * rows);
            D.due(of + "a comma behind the 9th is allowed", fault(nine + ","), nine.length() + 1);
            D.due(of + "a comma behind the 10th is not", fault(ten + ","), end);
            D.due(of + "an 11th column", fault(ten + "," + times(rows, "+")), end);
            D.due(of + "a sign too many in the 10th", fault(ten + "-"), end);
            D.due(of + "another sign behind the 10th", fault(ten + "x"), end);
            D.due(of + "a comma within the 10th", fault(ten.substring(0, end - 1) + ","), end - 1);
            D.due(of + "the 10th ends too early", fault(ten.substring(0, end - 1)), end - 1);
        }
    }

    private static void theFirstFaultIsTold() {
        String sentence = "Terms: the first character that is not allowed: ";
        D.due(sentence + "two of them", fault("+x,x"), 1);
        D.due(sentence + "ahead of a text that ends too early", fault("+,x,"), 2);
        D.due(sentence + "ahead of a comma too many", fault("x,+,+,+,+,+,+,+,+,+,+,+"), 0);
        D.due(sentence + "ahead of a column that is too long", fault("+,+-,x"), 3);
        D.due(sentence + "at the end", fault("+,-,+,x"), 6);
    }

    private static void allShortTexts() {
        char[] signs = {'+', '-', ',', 'x'};
        int many = 1;
        for (int length = 0; length <= 7; length++) {
            for (int number = 0; number < many; number++) {
                StringBuilder text = new StringBuilder();
                for (int rest = number, i = 0; i < length; i++) {
                    text.append(signs[rest % 4]);
                    rest /= 4;
                }
                SpinStrips x = typed(text.toString());
                Model m = new Model();
                m.text = text.toString();
                int want = m.read();
                D.due("3: all short texts: '" + text + "'", x.read(), want);
                if (want > 0) {
                    D.dueSpins("3: all short texts: '" + text + "'", x, text.toString());
                }
            }
            many *= 4;
        }
    }

    private static void theFaultOfAFullText() {
        D.due("Terms: a full text: signs alone", fault(times(60, "+")), 3);
        D.due("Terms: a full text: commas alone", fault(times(60, ",")), 0);
        D.due("Terms: a full text: 1 row", fault(times(30, "+,")), 19);
        D.due("Terms: a full text: 2 rows", fault(times(20, "+-,")), 29);
        D.due("Terms: a full text: 3 rows", fault(times(15, "+-+,")), 39);
        D.due("Terms: a full text: columns too long", fault(times(12, "+-+-,")), 3);
        D.due("Terms: a full text: another sign at last", fault(times(59, "+") + "x"), 3);
    }

    private static void faultsChangeNothing() {
        String[] texts = {"", ",", "x", "+,", "++++", "+,++", "++,+", "++,+,", "+,+,+,+,+,+,+,+,+,+,", "+++,--", "-x",
            "+-+,+-+,+-+,+-+,+-+,+-+,+-+,+-+,+-+,+-+,", "---,--x"};
        for (String text : texts) {
            int want = -1100 - fault(text);
            D.refused("3: -1100 minus the fault (which is an error): '" + text + "'", () -> busyWith(text),
                    SpinStrips::read, want);
            D.refused("3: a new object: '" + text + "'", () -> typed(text), SpinStrips::read, want);
        }
        D.due("3: -1100 minus the fault: the least fault", typed("x").read(), -1100);
        D.due("3: -1100 minus the fault: the greatest one", typed(times(15, "+-+,")).read(), -1139);
    }

    private static void theTextStays() {
        SpinStrips x = busyWith("+-,-+");
        for (int time = 0; time < 6; time++) {
            D.due("3: the text stays: read", x.read(), 4);
            D.due("3: the text stays: its length", x.count(16), 5);
            D.dueSpins("3: the text stays", x, "+-,-+");
            x.turn(0, 0);
        }
        SpinStrips wrong = busyWith("+-,-");
        D.due("3: a text with a fault stays", wrong.read(), -1104);
        D.due("3: a text with a fault stays, its length", wrong.count(16), 4);
        wrong.type('-');
        D.due("3: a text with a fault stays, and can be mended", wrong.read(), 4);
        D.dueSpins("3: a text with a fault stays, and can be mended", wrong, "+-,--");
    }

    private static void theTextIsNotOfTheState() {
        String sentence = "Terms: a state is everything but the text: ";
        SpinStrips x = typed("+");
        x.keep();
        x.turn(0, 0);
        Due.typeAll(x, "-+");
        x.undo();
        D.due(sentence + "after undo()", x.count(16), 3);
        x.restore();
        D.due(sentence + "after restore()", x.count(16), 3);
        x.lay(1, 1, false);
        D.due(sentence + "after lay", x.count(16), 3);
        D.due(sentence + "what it is", x.read(), 3);
        D.dueSpins(sentence + "what it is", x, "+-+");
        x.clearText();
        x.undo();
        D.due(sentence + "a text that is cleared stays so after undo()", x.count(16), 0);
        x.restore();
        D.due(sentence + "a text that is cleared stays so after restore()", x.count(16), 0);
    }

    private static void aRingIfItWasOne() {
        for (int columns : new int[] {1, 2, 3, 10}) {
            for (int rows = 1; rows <= 3; rows++) {
                String text = textOf(columns, rows);
                int open = (columns - 1) * rows + columns * (rows - 1);
                SpinStrips ring = Due.read(text, true);
                D.due("3: it is a ring if it was one: " + text, ring.count(2), 1);
                D.due("3: it is a ring if it was one, pairs: " + text, ring.count(14), open + (columns >= 3 ? rows : 0));
                SpinStrips strip = Due.read(text, false);
                D.due("3: it is none if it was none: " + text, strip.count(2), 0);
                D.due("3: it is none if it was none, pairs: " + text, strip.count(14), open);
            }
        }
        SpinStrips x = Due.read("+", true);
        x.clearText();
        Due.typeAll(x, "+,-,-");
        x.read();
        D.due("3: a ring of one column was a ring", x.count(14), 3);
    }

    private static void allFieldsAre0() {
        SpinStrips x = Starts.whole(1, 3);
        Due.typeAll(x, textOf(10, 3));
        x.read();
        for (int cell = 0; cell < 30; cell++) {
            D.due("3: all fields are 0", x.cell(cell % 3, cell / 3, 1), 0);
        }
        SpinStrips same = new SpinStrips();
        same.setField(1, 5, -3);
        Due.typeAll(same, "++,++,++,++,++,++");
        D.due("3: all fields are 0, spins and size as they were", same.read(), 12);
        D.due("3: all fields are 0, spins and size as they were, then", same.cell(1, 5, 1), 0);
        D.due("3: all fields are 0, the energy", same.count(3), -16);
        D.due("3: all fields are 0, the least energy", same.count(8), -16);
    }

    private static void pullsStay() {
        SpinStrips x = busyWith("+-,-+");
        int turned = x.count(13);
        x.read();
        D.due("3: the pull along stays", x.count(6), -1);
        D.due("3: the pull across stays", x.count(7), 2);
        D.due("3: the energy by them", x.count(3), -2 + 4);
        D.due("22: cells turned so far, none by read()", x.count(13), turned);
    }

    private static void readIsAnAct() {
        D.recorded("3: this is an act", () -> typed("+"), SpinStrips::read, 1);
        D.recorded("3: this is an act, all as it was", () -> typed("++,++,++,++,++,++"), SpinStrips::read, 12);
        D.recorded("3: this is an act of a busy one", () -> busyWith(textOf(10, 3)), SpinStrips::read, 30);
    }

    private static void oneTextAfterAnother() {
        SpinStrips x = typed("+++,+++");
        D.due("3: one text after another: the first", x.read(), 6);
        for (String text : new String[] {"---,---", "-", "+,-", "--,++,-+", "-+-", "--,--", "+", "---,+-+,---"}) {
            x.clearText();
            Due.typeAll(x, text);
            D.due("3: one text after another: " + text, x.read(), text.replace(",", "").length());
            D.dueSpins("3: one text after another: " + text, x, text);
        }
        x.clearText();
        Due.typeAll(x, "+++,++");
        D.due("3: one with a fault after another", x.read(), -1106);
        D.dueSpins("3: one with a fault after another", x, "---,+-+,---");
    }

    private static void allStripsAreThoseOfTheText() {
        for (String text : new String[] {"-", "+,-", "+-,-+", "+,-,-", "++-,--+,+-+"}) {
            SpinStrips x = typed(text);
            x.setPull(false, -2);
            x.setField(0, 0, 1);
            Look.all(x, 30);
            x.read();
            int columns = (text.length() + 1) / (text.indexOf(',') < 0 ? 2 : text.indexOf(',') + 1);
            SpinStrips other = Starts.laid(columns, x.count(1), false);
            other.setPull(false, -2);
            D.due("3: columns of " + text, x.count(0), columns);
            D.dueText("3: all strips are those of the text then: " + text, Look.all(x, 30), Look.all(other, 30));
        }
    }
}
