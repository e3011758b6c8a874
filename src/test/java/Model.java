import java.util.ArrayList;
import java.util.List;

/**
 * The document in its most literal form: pairs of neighbours in a list, energies by adding them up,
 * all strips by going through every one of them. Slow, and shares no thought with the program.
 */
final class Model {
    static final int UNKNOWN = -1001;
    static final int BAD_VALUE = -1002;
    static final int FULL = -1003;
    static final int NONE = -1005;

    static final class State implements Cloneable {
        int columns = 6;
        int rows = 2;
        boolean ring = false;
        int along = 1;
        int across = 1;
        int turned = 0;
        int[] spins = new int[12];
        int[] fields = new int[12];

        State copy() {
            State other = new State();
            other.columns = columns;
            other.rows = rows;
            other.ring = ring;
            other.along = along;
            other.across = across;
            other.turned = turned;
            other.spins = spins.clone();
            other.fields = fields.clone();
            return other;
        }
    }

    State s = new State();
    final List<State> history = new ArrayList<>();
    State snapshot = null;
    String text = "";

    // pairs of cells that are neighbours along, then across; cells are told in reading order
    private List<int[]> alongPairs;
    private List<int[]> acrossPairs;

    Model() {
        java.util.Arrays.fill(s.spins, 1);
        findPairs();
    }

    private void findPairs() {
        alongPairs = new ArrayList<>();
        acrossPairs = new ArrayList<>();
        for (int c = 0; c < s.columns; c++) {
            for (int r = 0; r < s.rows; r++) {
                if (c + 1 < s.columns) {
                    alongPairs.add(new int[] {c * s.rows + r, (c + 1) * s.rows + r});
                } else if (s.ring && s.columns >= 3) {
                    alongPairs.add(new int[] {c * s.rows + r, r});
                }
                if (r + 1 < s.rows) {
                    acrossPairs.add(new int[] {c * s.rows + r, c * s.rows + r + 1});
                }
            }
        }
    }

    private void record() {
        history.add(s.copy());
        if (history.size() > 4) {
            history.remove(0);
        }
    }

    private boolean has(int row, int column) {
        return row >= 0 && row < s.rows && column >= 0 && column < s.columns;
    }

    int energyOf(int[] spins) {
        int sum = 0;
        for (int[] pair : alongPairs) {
            sum += s.along * spins[pair[0]] * spins[pair[1]];
        }
        for (int[] pair : acrossPairs) {
            sum += s.across * spins[pair[0]] * spins[pair[1]];
        }
        for (int i = 0; i < spins.length; i++) {
            sum += s.fields[i] * spins[i];
        }
        return -sum;
    }

    int wallsOf(int[] spins) {
        int walls = 0;
        for (int[] pair : alongPairs) {
            walls += spins[pair[0]] != spins[pair[1]] ? 1 : 0;
        }
        for (int[] pair : acrossPairs) {
            walls += spins[pair[0]] != spins[pair[1]] ? 1 : 0;
        }
        return walls;
    }

    private static int upsOf(int[] spins) {
        int ups = 0;
        for (int spin : spins) {
            ups += spin == 1 ? 1 : 0;
        }
        return ups;
    }

    private int gain(int i) {
        int[] other = s.spins.clone();
        other[i] = -other[i];
        return energyOf(s.spins) - energyOf(other);
    }

    private List<Integer> neighbours(int i) {
        List<Integer> found = new ArrayList<>();
        for (List<int[]> pairs : List.of(alongPairs, acrossPairs)) {
            for (int[] pair : pairs) {
                if (pair[0] == i) {
                    found.add(pair[1]);
                } else if (pair[1] == i) {
                    found.add(pair[0]);
                }
            }
        }
        return found;
    }

    private void join(int i, boolean[] in) {
        in[i] = true;
        for (int other : neighbours(i)) {
            if (!in[other] && s.spins[other] == s.spins[i]) {
                join(other, in);
            }
        }
    }

    private boolean[] patch(int i) {
        boolean[] in = new boolean[s.spins.length];
        join(i, in);
        return in;
    }

    private static int size(boolean[] in) {
        int size = 0;
        for (boolean one : in) {
            size += one ? 1 : 0;
        }
        return size;
    }

    int lay(int columns, int rows, boolean ring) {
        if (columns < 1 || columns > 10 || rows < 1 || rows > 3) {
            return BAD_VALUE;
        }
        record();
        remake(columns, rows, ring);
        return columns * rows;
    }

    private void remake(int columns, int rows, boolean ring) {
        s.columns = columns;
        s.rows = rows;
        s.ring = ring;
        s.spins = new int[columns * rows];
        s.fields = new int[columns * rows];
        java.util.Arrays.fill(s.spins, 1);
        findPairs();
    }

    /** Whether a text could be the beginning of the text of a strip. */
    private static boolean begins(String text) {
        for (int rows = 1; rows <= 3; rows++) {
            boolean fits = true;
            for (int i = 0; i < text.length(); i++) {
                boolean comma = i % (rows + 1) == rows;
                char c = text.charAt(i);
                fits &= comma ? c == ',' && i < 10 * (rows + 1) - 1 : c == '+' || c == '-';
            }
            if (fits) {
                return true;
            }
        }
        return false;
    }

    int read() {
        for (int i = 0; i < text.length(); i++) {
            if (!begins(text.substring(0, i + 1))) {
                return -1100 - i;
            }
        }
        String[] columns = text.split(",", -1);
        for (String column : columns) {
            if (column.isEmpty() || column.length() != columns[0].length()) {
                return -1100 - text.length();
            }
        }
        record();
        remake(columns.length, columns[0].length(), s.ring);
        String signs = text.replace(",", "");
        for (int i = 0; i < signs.length(); i++) {
            s.spins[i] = signs.charAt(i) == '+' ? 1 : -1;
        }
        return signs.length();
    }

    int close(boolean ring) {
        if (s.ring == ring) {
            return NONE;
        }
        record();
        s.ring = ring;
        findPairs();
        return energyOf(s.spins);
    }

    int setPull(boolean across, int pull) {
        if (Math.abs((long) pull) > 2) {
            return BAD_VALUE;
        }
        int was = across ? s.across : s.along;
        if (was == pull) {
            return NONE;
        }
        record();
        if (across) {
            s.across = pull;
        } else {
            s.along = pull;
        }
        return was;
    }

    int setField(int row, int column, int field) {
        if (!has(row, column)) {
            return UNKNOWN;
        }
        if (Math.abs((long) field) > 3) {
            return BAD_VALUE;
        }
        int was = s.fields[column * s.rows + row];
        if (was == field) {
            return NONE;
        }
        record();
        s.fields[column * s.rows + row] = field;
        return was;
    }

    int turn(int row, int column) {
        if (!has(row, column)) {
            return UNKNOWN;
        }
        record();
        s.spins[column * s.rows + row] *= -1;
        s.turned++;
        return energyOf(s.spins);
    }

    int turnPatch(int row, int column) {
        if (!has(row, column)) {
            return UNKNOWN;
        }
        record();
        boolean[] in = patch(column * s.rows + row);
        for (int i = 0; i < in.length; i++) {
            if (in[i]) {
                s.spins[i] *= -1;
            }
        }
        s.turned += size(in);
        return size(in);
    }

    int sweep(int times) {
        if (times < 1 || times > 50) {
            return BAD_VALUE;
        }
        State before = s.copy();
        int all = 0;
        for (int time = 0; time < times; time++) {
            int now = 0;
            for (int i = 0; i < s.spins.length; i++) {
                if (gain(i) > 0) {
                    s.spins[i] *= -1;
                    now++;
                }
            }
            all += now;
            if (now == 0) {
                break;
            }
        }
        if (all == 0) {
            return NONE;
        }
        s.turned += all;
        history.add(before);
        if (history.size() > 4) {
            history.remove(0);
        }
        return all;
    }

    int settle() {
        int[] best = everything().first;
        if (java.util.Arrays.equals(best, s.spins)) {
            return NONE;
        }
        record();
        s.spins = best.clone();
        return energyOf(s.spins);
    }

    int type(char character) {
        if (text.length() == 60) {
            return FULL;
        }
        text += character;
        return text.length();
    }

    int clearText() {
        int length = text.length();
        text = "";
        return length;
    }

    int undo() {
        if (history.isEmpty()) {
            return NONE;
        }
        s = history.remove(history.size() - 1);
        findPairs();
        return history.size();
    }

    int keep() {
        snapshot = s.copy();
        return energyOf(s.spins);
    }

    int restore() {
        if (snapshot == null) {
            return NONE;
        }
        record();
        s = snapshot.copy();
        findPairs();
        return energyOf(s.spins);
    }

    int cell(int row, int column, int what) {
        if (!has(row, column)) {
            return UNKNOWN;
        }
        int i = column * s.rows + row;
        switch (what) {
            case 0: return s.spins[i];
            case 1: return s.fields[i];
            case 2: return gain(i);
            case 3: return gain(i) == 0 ? 1 : gain(i) < 0 ? 2 : 0;
            case 4: return neighbours(i).size();
            case 5:
                int same = 0;
                for (int other : neighbours(i)) {
                    same += s.spins[other] == s.spins[i] ? 1 : 0;
                }
                return same;
            case 6: return size(patch(i));
            default: return BAD_VALUE;
        }
    }

    int column(int column) {
        if (!has(0, column)) {
            return UNKNOWN;
        }
        int bits = 0;
        for (int r = 0; r < s.rows; r++) {
            bits += s.spins[column * s.rows + r] == 1 ? Math.round(Math.pow(2, r)) : 0;
        }
        return bits;
    }

    /** What is found by going through all strips. */
    static final class Everything {
        final int[] byEnergy = new int[401];
        final int[] byWalls = new int[61];
        final int[] byUps = new int[31];
        int[] leastByUps = new int[31];
        int[] first = null;
        int least = Integer.MAX_VALUE;
        int greatest = Integer.MIN_VALUE;
    }

    private Everything known = null;
    private String knownFor = "";

    Everything everything() {
        String key = s.columns + " " + s.rows + " " + s.ring + " " + s.along + " " + s.across
                + java.util.Arrays.toString(s.fields);
        if (key.equals(knownFor)) {
            return known;
        }
        Everything all = new Everything();
        int cells = s.columns * s.rows;
        int[] spins = new int[cells];
        for (int number = 0; number < 1 << cells; number++) {
            for (int i = 0; i < cells; i++) {
                spins[i] = (number >> cells - 1 - i & 1) == 1 ? 1 : -1;
            }
            int energy = energyOf(spins);
            all.byEnergy[200 + energy]++;
            all.byWalls[wallsOf(spins)]++;
            all.byUps[upsOf(spins)]++;
            all.greatest = Math.max(all.greatest, energy);
            if (energy < all.least) {
                all.least = energy;
                all.first = spins.clone();
                all.leastByUps = new int[31];
            }
            if (energy == all.least) {
                all.leastByUps[upsOf(spins)]++;
            }
        }
        known = all;
        knownFor = key;
        return all;
    }

    private static int at(int[] row, long index) {
        return index >= 0 && index < row.length ? row[(int) index] : 0;
    }

    int withEnergy(int energy) {
        return at(everything().byEnergy, 200L + energy);
    }

    int withWalls(int walls) {
        return at(everything().byWalls, walls);
    }

    int withUps(int ups, boolean least) {
        return at(least ? everything().leastByUps : everything().byUps, ups);
    }

    int heat(int hundredths, boolean mean) {
        if (hundredths < 50 || hundredths > 100) {
            return 0;
        }
        float b = (float) hundredths / 100.0f;
        Everything all = everything();
        float weights = 0.0f;
        float energies = 0.0f;
        for (int e = all.least; e <= all.greatest; e++) {
            float weight = 1.0f;
            for (int i = all.least; i < e; i++) {
                weight = weight * b;
            }
            float many = (float) all.byEnergy[200 + e];
            weights = weights + many * weight;
            energies = energies + many * weight * (float) e;
        }
        return Float.floatToIntBits(mean ? energies / weights : weights);
    }

    int count(int what) {
        switch (what) {
            case 0: return s.columns;
            case 1: return s.rows;
            case 2: return s.ring ? 1 : 0;
            case 3: return energyOf(s.spins);
            case 4: return wallsOf(s.spins);
            case 5: return upsOf(s.spins);
            case 6: return s.along;
            case 7: return s.across;
            case 8: return everything().least;
            case 9: return everything().greatest;
            case 10: return withEnergy(everything().least);
            case 11:
                boolean[] seen = new boolean[s.spins.length];
                int patches = 0;
                for (int i = 0; i < seen.length; i++) {
                    if (!seen[i]) {
                        patches++;
                        join(i, seen);
                    }
                }
                return patches;
            case 12:
                int would = 0;
                for (int i = 0; i < s.spins.length; i++) {
                    would += gain(i) > 0 ? 1 : 0;
                }
                return would;
            case 13: return s.turned;
            case 14: return alongPairs.size() + acrossPairs.size();
            case 15: return history.size();
            case 16: return text.length();
            default: return BAD_VALUE;
        }
    }
}
