/** Long runs of calls of all kinds, each answer against that of the Model. */
public final class ModelTests {
    private static final int MOST_CALLS = 512;
    private static final Due D = new Due();
    private static final String SIGNS = "+-,+-,+-+-,x,\u20ac";

    private SpinStrips x = new SpinStrips();
    private Model m = new Model();
    private int calls = 0;
    private final int mostCells;
    private final String run;
    private long seed;

    private ModelTests(int number, int mostCells) {
        this.run = "run " + number;
        this.seed = number * 7919L + 17L;
        this.mostCells = mostCells;
    }

    public static void main(String[] args) {
        for (int number = 1; number <= 400; number++) {
            new ModelTests(number, 12).play();
        }
        for (int number = 401; number <= 404; number++) {
            new ModelTests(number, 16).play();
        }
        D.end();
    }

    /** The next number of a fixed row, from 0 to below the bound. */
    private int pick(int bound) {
        seed = seed * 6364136223846793005L + 1442695040888963407L;
        return (int) ((seed >>> 33) % bound);
    }

    private int between(int least, int greatest) {
        return least + pick(greatest - least + 1);
    }

    private int wild() {
        int[] far = {Integer.MIN_VALUE, Integer.MAX_VALUE, -1, 11, 4, 100, -101, 64, 32};
        return far[pick(far.length)];
    }

    private int oftenBetween(int least, int greatest) {
        return pick(25) == 0 ? wild() : between(least, greatest);
    }

    private void due(String call, int got, int want) {
        calls++;
        D.due(run + ", call " + calls + ": " + call, got, want);
    }

    private void play() {
        while (calls < MOST_CALLS - 8) {
            switch (pick(4)) {
                case 0: changeStrip(); break;
                case 1: changeSpins(); break;
                case 2: changeRest(); break;
                default: ask(); break;
            }
            ask();
        }
    }

    private void changeStrip() {
        switch (pick(8)) {
            case 0:
                lay();
                break;
            case 1:
                readSomething();
                break;
            case 2:
                boolean ring = pick(2) == 0;
                due("close(" + ring + ")", x.close(ring), m.close(ring));
                break;
            case 3:
            case 4:
                boolean across = pick(2) == 0;
                int pull = oftenBetween(-3, 3);
                due("setPull(" + across + ", " + pull + ")", x.setPull(across, pull), m.setPull(across, pull));
                break;
            default:
                int row = row();
                int column = anyColumn();
                int field = oftenBetween(-4, 4);
                due("setField(" + row + ", " + column + ", " + field + ")",
                        x.setField(row, column, field), m.setField(row, column, field));
                break;
        }
    }

    private void lay() {
        int columns = oftenBetween(0, 11);
        int rows = oftenBetween(0, 4);
        boolean allowed = columns >= 1 && columns <= 10 && rows >= 1 && rows <= 3;
        if (allowed && columns * rows > mostCells) {
            columns = mostCells / rows > 10 ? 10 : mostCells / rows;
        }
        boolean ring = pick(2) == 0;
        due("lay(" + columns + ", " + rows + ", " + ring + ")", x.lay(columns, rows, ring), m.lay(columns, rows, ring));
    }

    private void readSomething() {
        due("clearText()", x.clearText(), m.clearText());
        int rows = between(1, 3);
        int columns = between(1, mostCells / rows > 10 ? 10 : mostCells / rows);
        StringBuilder text = new StringBuilder();
        for (int column = 0; column < columns; column++) {
            for (int row = 0; row < rows; row++) {
                text.append(pick(2) == 0 ? '+' : '-');
            }
            text.append(column + 1 < columns ? "," : "");
        }
        if (pick(3) == 0) {
            text.setCharAt(pick(text.length()), SIGNS.charAt(pick(SIGNS.length())));
        }
        if (calls + text.length() > MOST_CALLS - 8) {
            return;
        }
        for (int i = 0; i < text.length(); i++) {
            char c = text.charAt(i);
            due("type(" + (int) c + ")", x.type(c), m.type(c));
        }
        due("read() of " + text, x.read(), m.read());
    }

    private int row() {
        return pick(25) == 0 ? wild() : between(-1, 3) % 4;
    }

    private int anyColumn() {
        return pick(25) == 0 ? wild() : pick(m.count(0) + 1);
    }

    private void changeSpins() {
        int row = row();
        int column = anyColumn();
        switch (pick(5)) {
            case 0:
            case 1:
                due("turn(" + row + ", " + column + ")", x.turn(row, column), m.turn(row, column));
                break;
            case 2:
                due("turnPatch(" + row + ", " + column + ")", x.turnPatch(row, column), m.turnPatch(row, column));
                break;
            case 3:
                int times = pick(2) == 0 ? between(0, 2) : oftenBetween(0, 51);
                due("sweep(" + times + ")", x.sweep(times), m.sweep(times));
                break;
            default:
                if (pick(2) == 0) {
                    due("settle()", x.settle(), m.settle());
                }
                break;
        }
    }

    private void changeRest() {
        switch (pick(7)) {
            case 0:
            case 1:
            case 2:
                due("undo()", x.undo(), m.undo());
                break;
            case 3:
                due("keep()", x.keep(), m.keep());
                break;
            case 4:
                due("restore()", x.restore(), m.restore());
                break;
            case 5:
                char c = SIGNS.charAt(pick(SIGNS.length()));
                due("type(" + (int) c + ")", x.type(c), m.type(c));
                break;
            default:
                due("read()", x.read(), m.read());
                break;
        }
    }

    private void ask() {
        int row = row();
        int column = anyColumn();
        switch (pick(9)) {
            case 0:
            case 1:
                int what = oftenBetween(-1, 7);
                due("cell(" + row + ", " + column + ", " + what + ")", x.cell(row, column, what), m.cell(row, column, what));
                break;
            case 2:
                due("column(" + column + ")", x.column(column), m.column(column));
                break;
            case 3:
                int energy = pick(2) == 0 ? m.count(3) : pick(20) == 0 ? wild() : between(-40, 40);
                due("withEnergy(" + energy + ")", x.withEnergy(energy), m.withEnergy(energy));
                break;
            case 4:
                int walls = pick(2) == 0 ? m.count(4) : oftenBetween(-2, 25);
                due("withWalls(" + walls + ")", x.withWalls(walls), m.withWalls(walls));
                break;
            case 5:
                int ups = oftenBetween(-1, 13);
                boolean least = pick(3) > 0;
                due("withUps(" + ups + ", " + least + ")", x.withUps(ups, least), m.withUps(ups, least));
                break;
            case 6:
                int hundredths = oftenBetween(49, 101);
                boolean mean = pick(2) == 0;
                due("heat(" + hundredths + ", " + mean + ")", x.heat(hundredths, mean), m.heat(hundredths, mean));
                break;
            default:
                int number = oftenBetween(-1, 17);
                due("count(" + number + ")", x.count(number), m.count(number));
                break;
        }
    }
}
