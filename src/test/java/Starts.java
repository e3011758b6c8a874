/** Objects to begin with. */
final class Starts {
    private Starts() {
    }

    static SpinStrips fresh() {
        return new SpinStrips();
    }

    static SpinStrips laid(int columns, int rows, boolean ring) {
        SpinStrips x = new SpinStrips();
        x.lay(columns, rows, ring);
        return x;
    }

    /** A ring of 5 columns and 3 rows with pulls, fields, a snapshot, a text with a fault at 3 and a full history. */
    static SpinStrips busy() {
        SpinStrips x = laid(5, 3, true);
        x.setPull(false, -1);
        x.setPull(true, 2);
        x.setField(1, 2, -3);
        x.turn(0, 4);
        x.keep();
        x.setField(0, 0, 2);
        x.turnPatch(2, 1);
        x.turn(1, 1);
        Due.typeAll(x, "+-,x");
        return x;
    }

    /** The greatest ring: 10 columns and 3 rows, both pulls and all fields as told. */
    static SpinStrips whole(int pull, int field) {
        SpinStrips x = laid(10, 3, true);
        x.setPull(false, pull);
        x.setPull(true, pull);
        for (int cell = 0; cell < 30; cell++) {
            x.setField(cell % 3, cell / 3, field);
        }
        return x;
    }
}
