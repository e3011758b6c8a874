import java.lang.management.ManagementFactory;

/** All calls of a run live in one room: the rows are made with the object, and no call makes more of them. */
public final class RoomTests {
    private static final int CALLS = 500;

    public static void main(String[] args) {
        Due due = new Due();
        callAll(new SpinStrips());
        long before = bytes();
        SpinStrips x = new SpinStrips();
        long made = bytes() - before;
        due.due("a new object takes less than 100,000 bytes", made < 100_000 ? 0 : made, 0);
        before = bytes();
        callAll(x);
        made = bytes() - before;
        due.due("500 calls take less than 50,000 bytes", made < 50_000 ? 0 : made, 0);
        due.end();
    }

    private static long bytes() {
        return ((com.sun.management.ThreadMXBean) ManagementFactory.getThreadMXBean()).getCurrentThreadAllocatedBytes();
    }

    private static void callAll(SpinStrips x) {
        x.lay(10, 3, true);
        for (int call = 1; call < CALLS; call += 20) {
            x.setField(call % 3, call % 10, call % 7 - 3);
            x.withEnergy(0);
            x.withWalls(5);
            x.withUps(15, true);
            x.withUps(15, false);
            x.heat(50 + call % 51, true);
            x.settle();
            x.turn(1, 1);
            x.turnPatch(0, 0);
            x.sweep(50);
            x.count(8);
            x.count(11);
            x.cell(2, 9, 6);
            x.keep();
            x.undo();
            x.restore();
            x.type('+');
            x.read();
            x.clearText();
            x.column(9);
        }
    }
}
