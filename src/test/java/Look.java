/** What an object tells of itself, as texts that can be compared. */
final class Look {
    private Look() {
    }

    /** The state alone: neither the history nor the text nor the snapshot. */
    static String state(SpinStrips x) {
        StringBuilder told = new StringBuilder();
        for (int what = 0; what <= 14; what++) {
            told.append(x.count(what)).append(' ');
        }
        int columns = x.count(0);
        int rows = x.count(1);
        for (int column = 0; column < columns; column++) {
            told.append("| ").append(x.column(column));
            for (int row = 0; row < rows; row++) {
                told.append(' ').append(x.cell(row, column, 1));
            }
        }
        return told.toString();
    }

    /** The state, the whole history, the text and the snapshot; the object is used up by it. */
    static String through(SpinStrips x) {
        StringBuilder told = new StringBuilder(state(x));
        told.append("\nhistory ").append(x.count(15)).append(", text ").append(x.count(16));
        int left = x.undo();
        for (int step = 0; step < 6 && left >= 0; step++) {
            told.append("\nundo ").append(left).append(": ").append(state(x));
            left = x.undo();
        }
        told.append("\nundo ").append(left).append("\nrestore ").append(x.restore()).append(": ").append(state(x));
        told.append("\nread ").append(x.read()).append(": ").append(state(x));
        return told.toString();
    }

    /** What is told of all strips, for strips with energies from -reach to reach. */
    static String all(SpinStrips x, int reach) {
        StringBuilder told = new StringBuilder();
        told.append(x.count(8)).append(' ').append(x.count(9)).append(' ').append(x.count(10)).append(", energies");
        for (int energy = -reach; energy <= reach; energy++) {
            told.append(' ').append(x.withEnergy(energy));
        }
        told.append(", walls");
        int pairs = x.count(14);
        for (int walls = 0; walls <= pairs; walls++) {
            told.append(' ').append(x.withWalls(walls));
        }
        told.append(", ups");
        int cells = x.count(0) * x.count(1);
        for (int ups = 0; ups <= cells; ups++) {
            told.append(' ').append(x.withUps(ups, false)).append('/').append(x.withUps(ups, true));
        }
        return told.append(", heat ").append(x.heat(50, false)).append(' ').append(x.heat(77, true)).toString();
    }
}
