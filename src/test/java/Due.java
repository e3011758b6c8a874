/** Counts and prints the answers that are not those that are due. */
final class Due {
    private int wrong = 0;
    private int asked = 0;

    void due(String call, long got, long want) {
        asked++;
        if (got != want) {
            wrong++;
            System.out.println(call + " answered " + got + ", due is " + want);
        }
    }

    /** Types all characters of a text behind that of the strip. */
    static void typeAll(SpinStrips x, String text) {
        for (int i = 0; i < text.length(); i++) {
            x.type(text.charAt(i));
        }
    }

    /** A new object that has read a text, as a strip or a ring. */
    static SpinStrips read(String text, boolean ring) {
        SpinStrips x = new SpinStrips();
        x.close(ring);
        typeAll(x, text);
        x.read();
        return x;
    }

    /** The spins, column by column, as a text that read() would take. */
    static String spins(SpinStrips x) {
        StringBuilder text = new StringBuilder();
        for (int column = 0; column < x.count(0); column++) {
            if (column > 0) {
                text.append(',');
            }
            for (int row = 0; row < x.count(1); row++) {
                text.append(x.cell(row, column, 0) == 1 ? '+' : '-');
            }
        }
        return text.toString();
    }

    void dueSpins(String when, SpinStrips x, String want) {
        asked++;
        String got = spins(x);
        if (!got.equals(want)) {
            wrong++;
            System.out.println(when + ": the spins are " + got + ", due is " + want);
        }
    }

    void end() {
        System.out.println(asked + " answers looked at, " + wrong + " not as due");
        if (wrong != 0 || asked == 0) {
            System.exit(1);
        }
    }
}
