import java.util.ArrayList;
import java.util.List;
import java.util.function.ToIntFunction;

/** The boundary cases of "HISTORY" and of promises 13, 14 and 15; each test names the sentence that it is for. */
public final class HistoryEdgeTests {
    private static final Due D = new Due();

    public static void main(String[] args) {
        emptyAtFirst();
        from0To4States();
        theOldestIsDropped();
        theHistoryGoesRound();
        undoAndActsInTurn();
        undoIsNoAct();
        eachActRecordsOne();
        eachActDropsTheOldest();
        refusedActsRecordNone();
        whatIsNoActRecordsNone();
        aStateIsEachPart();
        aStateOfAnotherSize();
        noSnapshotAtFirst();
        keepReturnsTheEnergy();
        keepTakesThePlace();
        keepIsNoAct();
        theSnapshotStays();
        theSnapshotIsNotOfTheState();
        restoreIsAnAct();
        restoreReturnsTheEnergy();
        turnedIsOfTheState();
        allStripsAfterUndoAndRestore();
        theLastOf512Calls();
        D.end();
    }

    private static void emptyAtFirst() {
        D.due("Terms: a history, empty at first", Starts.fresh().count(15), 0);
        D.refused("13: NONE if the history is empty: a new object", Starts::fresh, SpinStrips::undo, -1005);
        D.refused("13: NONE if the history is empty: again", HistoryEdgeTests::undone, SpinStrips::undo, -1005);
        SpinStrips x = undone();
        x.turn(1, 1);
        D.due("13: after NONE the history goes on", x.undo(), 0);
        D.due("13: and it is empty again", x.undo(), -1005);
    }

    /** A busy object whose whole history has been undone. */
    private static SpinStrips undone() {
        SpinStrips x = Starts.busy();
        for (int time = 0; time < 5; time++) {
            x.undo();
        }
        return x;
    }

    private static void from0To4States() {
        for (int acts = 0; acts <= 9; acts++) {
            SpinStrips x = Starts.fresh();
            for (int act = 0; act < acts; act++) {
                x.turn(act % 2, act % 6);
            }
            int states = Math.min(acts, 4);
            D.due("Terms: a history of at most 4 states: after " + acts, x.count(15), states);
            for (int left = states - 1; left >= 0; left--) {
                D.due("13: returns the number of states that are left: after " + acts, x.undo(), left);
                D.due("22: the states in the history", x.count(15), left);
            }
            D.due("13: NONE if the history is empty: after " + acts, x.undo(), -1005);
            D.due("Terms: the oldest one is dropped: turned after " + acts, x.count(13), acts - states);
        }
    }

    private static void theOldestIsDropped() {
        SpinStrips x = Starts.fresh();
        x.lay(1, 1, false);
        x.lay(2, 1, false);
        x.lay(3, 1, false);
        x.lay(4, 1, false);
        D.due("Terms: 4 states are kept", x.count(15), 4);
        x.lay(5, 1, false);
        D.due("Terms: when one more is recorded, the oldest one is dropped", x.count(15), 4);
        for (int columns = 4; columns >= 1; columns--) {
            x.undo();
            D.due("Terms: the latest one first", x.count(0), columns);
        }
        D.due("Terms: the one of 6 columns is dropped", x.undo(), -1005);
        D.due("Terms: the one of 6 columns is dropped, columns", x.count(0), 1);
    }

    private static void theHistoryGoesRound() {
        for (int acts = 1; acts <= 13; acts++) {
            SpinStrips x = Starts.fresh();
            List<String> states = new ArrayList<>();
            for (int act = 0; act < acts; act++) {
                states.add(Due.spins(x));
                x.turn(act % 2, act * 5 % 6);
            }
            for (int back = 1; back <= Math.min(acts, 4); back++) {
                x.undo();
                D.dueSpins("13: restores the latest one, after " + acts, x, states.get(acts - back));
            }
        }
    }

    private static void undoAndActsInTurn() {
        // Each number is so many acts, below 0 so many times undo(); the strip's columns tell which state it is.
        int[][] runs = {{3, -2, 4, -4, -1}, {4, -4, 4, -4}, {6, -1, 1, -4}, {5, -3, 2, -2, 3, -4}, {1, -1, 1, -1, 9, -2, 2, -4},
            {4, -1, 2, -1, 2, -1, 2, -4}, {7, -4, 1, -1, 5, -4, -1}};
        for (int[] run : runs) {
            SpinStrips x = Starts.laid(1, 1, false);
            x.undo();
            List<Integer> history = new ArrayList<>();
            int now = 6;
            int next = 1;
            for (int part : run) {
                for (int time = 0; time < Math.abs(part); time++) {
                    if (part > 0) {
                        history.add(now);
                        now = next;
                        next = next % 10 + 1;
                        x.lay(now, 1, false);
                        if (history.size() > 4) {
                            history.remove(0);
                        }
                    } else {
                        int left = history.size() - 1;
                        now = left < 0 ? now : history.remove(left);
                        D.due("13: undo() and acts in turn", x.undo(), left < 0 ? -1005 : left);
                    }
                    D.due("13: undo() and acts in turn: columns", x.count(0), now);
                    D.due("13: undo() and acts in turn: states", x.count(15), history.size());
                }
            }
        }
    }

    private static void undoIsNoAct() {
        SpinStrips x = Starts.fresh();
        x.turn(0, 0);
        x.turn(0, 1);
        D.due("13: undo() records none", x.undo(), 1);
        D.due("13: undo() records none, again", x.undo(), 0);
        D.due("13: there is no way forth", x.undo(), -1005);
        D.dueSpins("13: there is no way forth", x, "++,++,++,++,++,++");
    }

    private static final List<ToIntFunction<SpinStrips>> ACTS = List.of(
            x -> x.lay(3, 2, false), SpinStrips::read, x -> x.close(false), x -> x.setPull(false, 1),
            x -> x.setPull(true, -2), x -> x.setField(2, 4, 3), x -> x.turn(1, 3), x -> x.turnPatch(0, 0),
            x -> x.sweep(1), x -> x.sweep(50), SpinStrips::settle, SpinStrips::restore);

    /** A busy object with a text that can be read. */
    private static SpinStrips ready() {
        SpinStrips x = Starts.busy();
        x.clearText();
        Due.typeAll(x, "+,-,-,+");
        return x;
    }

    /** A busy object with a text that can be read, and without a history. */
    private static SpinStrips readyWithNone() {
        SpinStrips x = ready();
        for (int time = 0; time < 4; time++) {
            x.undo();
        }
        return x;
    }

    private static void eachActRecordsOne() {
        for (int act = 0; act < ACTS.size(); act++) {
            SpinStrips x = readyWithNone();
            String before = Look.state(x);
            D.due("Terms: no states before act " + act, x.count(15), 0);
            boolean done = ACTS.get(act).applyAsInt(x) > -1000;
            D.due("Terms: each call that is an act is done: " + act, done ? 1 : 0, 1);
            D.due("Terms: each act records the state that was before it: " + act, x.count(15), 1);
            D.due("Terms: each act records one: " + act, x.undo(), 0);
            D.dueText("Terms: the state that was before it: " + act, Look.state(x), before);
        }
    }

    private static void eachActDropsTheOldest() {
        for (int act = 0; act < ACTS.size(); act++) {
            SpinStrips x = ready();
            D.due("Terms: 4 states before act " + act, x.count(15), 4);
            SpinStrips twin = ready();
            D.due("Terms: act " + act + " is done", ACTS.get(act).applyAsInt(x) > -1000 ? 1 : 0, 1);
            D.due("Terms: the oldest one is dropped: act " + act, x.count(15), 4);
            x.undo();
            for (int back = 0; back < 4; back++) {
                D.dueText("Terms: the states behind act " + act, Look.state(x), Look.state(twin));
                D.due("Terms: the states behind act " + act + ": left", x.count(15), 3 - back);
                x.undo();
                twin.undo();
            }
        }
    }

    private static void dueRecordNone(String call, ToIntFunction<SpinStrips> refused, int want) {
        D.refused("Terms: a call that returns an error or NONE records none: " + call, HistoryEdgeTests::undone, refused, want);
        D.refused("Terms: a call that returns an error or NONE drops none: " + call, Starts::busy, refused, want);
    }

    private static void refusedActsRecordNone() {
        dueRecordNone("lay", x -> x.lay(0, 1, false), -1002);
        dueRecordNone("read", SpinStrips::read, -1103);
        dueRecordNone("close", x -> x.close(true), -1005);
        dueRecordNone("setPull along", x -> x.setPull(false, -1), -1005);
        dueRecordNone("setPull across", x -> x.setPull(true, 3), -1002);
        dueRecordNone("setField as it is", x -> x.setField(1, 2, -3), -1005);
        dueRecordNone("setField of no cell", x -> x.setField(3, 0, 0), -1001);
        dueRecordNone("setField too great", x -> x.setField(0, 0, 4), -1002);
        dueRecordNone("turn", x -> x.turn(0, 5), -1001);
        dueRecordNone("turnPatch", x -> x.turnPatch(-1, 0), -1001);
        dueRecordNone("sweep", x -> x.sweep(51), -1002);
        D.refused("Terms: NONE records none: settle", HistoryEdgeTests::settled, SpinStrips::settle, -1005);
        D.refused("Terms: NONE records none: sweep", HistoryEdgeTests::settled, x -> x.sweep(50), -1005);
        D.refused("Terms: NONE records none: restore", HistoryEdgeTests::withoutSnapshot, SpinStrips::restore, -1005);
    }

    private static SpinStrips settled() {
        SpinStrips x = Starts.busy();
        x.settle();
        return x;
    }

    private static SpinStrips withoutSnapshot() {
        SpinStrips x = Starts.fresh();
        for (int column = 0; column < 5; column++) {
            x.turn(0, column);
        }
        return x;
    }

    private static void whatIsNoActRecordsNone() {
        SpinStrips x = Starts.busy();
        for (int what = -1; what <= 17; what++) {
            x.count(what);
            x.cell(1, 1, what);
            x.column(what);
            x.withEnergy(what);
            x.withWalls(what);
            x.withUps(what, true);
            x.withUps(what, false);
            x.heat(45 + 5 * what, true);
            x.heat(45 + 5 * what, false);
        }
        x.type('+');
        x.clearText();
        Due.typeAll(x, "+-,x");
        D.dueText("Terms: what is told and texts record none", Look.through(x), Look.through(Starts.busy()));
    }

    private static void aStateIsEachPart() {
        SpinStrips x = Starts.laid(4, 2, false);
        x.setField(1, 3, -2);
        String first = Look.state(x);
        x.keep();
        List<ToIntFunction<SpinStrips>> parts = List.of(y -> y.lay(5, 2, false), y -> y.lay(4, 3, false), y -> y.lay(4, 2, false),
                y -> y.close(true), y -> y.setPull(false, 2), y -> y.setPull(true, 0), y -> y.setField(0, 0, 1),
                y -> y.setField(1, 3, 2), y -> y.turn(0, 3), y -> y.turnPatch(1, 2), SpinStrips::settle);
        String[] names = {"columns", "rows", "fields", "the ring", "the pull along", "the pull across", "a field",
            "a field that was", "a spin and the cells turned", "spins and the cells turned", "spins alone"};
        for (int part = 0; part < parts.size(); part++) {
            SpinStrips y = Starts.laid(4, 2, false);
            y.setField(1, 3, -2);
            y.keep();
            parts.get(part).applyAsInt(y);
            D.due("Terms: a state has " + names[part] + ": changed", Look.state(y).equals(first) ? 1 : 0, 0);
            D.due("13: undo() of " + names[part], y.undo(), 2);
            D.dueText("13: undo() brings back " + names[part], Look.state(y), first);
            parts.get(part).applyAsInt(y);
            D.due("15: restore() of " + names[part], y.restore(), -8);
            D.dueText("15: restore() brings back " + names[part], Look.state(y), first);
        }
    }

    private static void aStateOfAnotherSize() {
        SpinStrips x = Starts.whole(2, 3);
        String whole = Look.state(x);
        x.keep();
        x.lay(1, 1, false);
        String one = Look.state(x);
        x.undo();
        D.dueText("13: from one cell to 30", Look.state(x), whole);
        x.lay(1, 1, false);
        D.due("15: from one cell to 30", x.restore(), -190);
        D.dueText("15: from one cell to 30", Look.state(x), whole);
        x.undo();
        D.dueText("13: from 30 cells to one", Look.state(x), one);
        x.keep();
        x.lay(10, 3, true);
        D.due("15: from 30 cells to one", x.restore(), 0);
        D.dueText("15: from 30 cells to one", Look.state(x), one);
        D.due("15: the other cells are none then", x.cell(0, 1, 0), -1001);
    }

    private static void noSnapshotAtFirst() {
        D.refused("15: NONE if there is no snapshot: a new object", Starts::fresh, SpinStrips::restore, -1005);
        D.refused("15: NONE if there is no snapshot: with a history", HistoryEdgeTests::withoutSnapshot,
                SpinStrips::restore, -1005);
        SpinStrips x = withoutSnapshot();
        x.undo();
        D.due("15: undo() makes no snapshot", x.restore(), -1005);
        SpinStrips same = Starts.fresh();
        D.due("14: keep() of a new object", same.keep(), -16);
        D.due("15: then there is one", same.restore(), -16);
    }

    private static void keepReturnsTheEnergy() {
        D.due("14: returns the energy: the least one", Starts.whole(2, 3).keep(), -190);
        D.due("14: returns the energy: the greatest one", Starts.whole(-2, -3).keep(), 190);
        D.due("14: returns the energy: one cell", Starts.laid(1, 1, true).keep(), 0);
        SpinStrips x = Starts.busy();
        D.due("14: returns the energy", x.keep(), x.count(3));
    }

    private static void keepTakesThePlace() {
        SpinStrips x = Starts.fresh();
        for (int column = 0; column < 6; column++) {
            x.turn(1, column);
            String spins = Due.spins(x);
            x.keep();
            x.lay(3, 3, true);
            x.restore();
            D.dueSpins("14: in place of the one that was", x, spins);
        }
        x.keep();
        x.keep();
        String state = Look.state(x);
        x.settle();
        x.restore();
        D.dueText("14: twice the same", Look.state(x), state);
    }

    private static void keepIsNoAct() {
        SpinStrips x = Starts.busy();
        String state = Look.state(x);
        x.keep();
        D.due("14: keep() records none", x.count(15), 4);
        D.dueText("14: the state stays", Look.state(x), state);
        SpinStrips twin = Starts.busy();
        for (int back = 0; back < 4; back++) {
            x.undo();
            twin.undo();
            D.dueText("14: the history stays", Look.state(x), Look.state(twin));
        }
        SpinStrips fresh = Starts.fresh();
        fresh.keep();
        D.due("14: keep() of a new object records none", fresh.undo(), -1005);
    }

    private static void theSnapshotStays() {
        for (int act = 0; act < 8; act++) {
            SpinStrips x = Starts.fresh();
            x.setField(1, 5, 3);
            x.keep();
            String state = Look.state(x);
            D.due("15: the snapshot stays, whatever is done: act " + act, change(x, act) > -1000 ? 1 : 0, 1);
            D.due("15: the snapshot stays: restore()", x.restore(), -19);
            D.dueText("15: the snapshot stays: state", Look.state(x), state);
            change(x, act);
            D.due("15: the snapshot stays: restore() again", x.restore(), -19);
            D.dueText("15: the snapshot stays: state again", Look.state(x), state);
            for (int time = 0; time < 5; time++) {
                x.undo();
            }
            D.due("15: the snapshot stays: restore() after undo()", x.restore(), -19);
            D.dueText("15: the snapshot stays: state after undo()", Look.state(x), state);
        }
    }

    private static int change(SpinStrips x, int act) {
        switch (act) {
            case 0: return x.lay(10, 3, true);
            case 1: return x.close(true);
            case 2: return x.setPull(false, -2);
            case 3: return x.setPull(true, -2);
            case 4: return x.setField(1, 5, -3);
            case 5: return x.turn(1, 5);
            case 6: return x.turnPatch(0, 0);
            default: return x.setField(0, 0, 1);
        }
    }

    private static void theSnapshotIsNotOfTheState() {
        String sentence = "Terms: a state is everything but the snapshot: ";
        SpinStrips x = Starts.fresh();
        x.turn(0, 0);
        x.keep();
        x.undo();
        D.due(sentence + "undo() leaves one that was taken later", x.restore(), -12);
        D.dueSpins(sentence + "undo() leaves one that was taken later", x, "-+,++,++,++,++,++");
        x.turn(0, 1);
        x.keep();
        x.undo();
        x.undo();
        D.due(sentence + "undo() does not bring back the one before", x.restore(), -10);
        D.dueSpins(sentence + "undo() does not bring back the one before", x, "-+,-+,++,++,++,++");
    }

    private static void restoreIsAnAct() {
        int energy = Starts.busy().restore();
        D.recorded("15: this is an act", Starts::busy, SpinStrips::restore, energy);
        D.recorded("15: this is an act even if nothing is changed", HistoryEdgeTests::kept, SpinStrips::restore, -16);
        SpinStrips x = kept();
        for (int time = 1; time <= 6; time++) {
            x.restore();
            D.due("15: each one is an act", x.count(15), Math.min(time, 4));
        }
        SpinStrips y = Starts.busy();
        y.restore();
        D.due("Terms: a state is everything but the history: restore() leaves it", y.count(15), 4);
    }

    private static SpinStrips kept() {
        SpinStrips x = Starts.fresh();
        x.keep();
        return x;
    }

    private static void restoreReturnsTheEnergy() {
        for (int pull : new int[] {-2, 0, 2}) {
            for (int field : new int[] {-3, 0, 3}) {
                SpinStrips x = Starts.whole(pull, field);
                int energy = x.keep();
                D.due("14: the energy", energy, -50 * pull - 30 * field);
                x.lay(1, 2, false);
                D.due("15: returns the energy then", x.restore(), energy);
            }
        }
    }

    private static void turnedIsOfTheState() {
        String sentence = "Terms: a state is everything but ..., so the cells turned so far are of it: ";
        SpinStrips x = Starts.fresh();
        x.turn(0, 0);
        x.keep();
        x.sweep(50);
        D.due(sentence + "swept", x.count(13), 2);
        x.turnPatch(1, 1);
        D.due(sentence + "turned", x.count(13), 14);
        x.undo();
        D.due(sentence + "undo() of turnPatch", x.count(13), 2);
        x.undo();
        D.due(sentence + "undo() of sweep", x.count(13), 1);
        x.undo();
        D.due(sentence + "undo() of turn", x.count(13), 0);
        x.restore();
        D.due(sentence + "restore()", x.count(13), 1);
        x.lay(1, 1, false);
        D.due(sentence + "lay leaves it", x.count(13), 1);
    }

    private static void allStripsAfterUndoAndRestore() {
        // What is asked before must not be what is told afterwards.
        String first = Look.all(Starts.fresh(), 30);
        for (int act = 0; act < 8; act++) {
            SpinStrips changed = Starts.fresh();
            change(changed, act);
            String want = Look.all(changed, 30);
            SpinStrips x = Starts.fresh();
            D.dueText("13: of all strips, before act " + act, Look.all(x, 30), first);
            change(x, act);
            D.dueText("13: of all strips, after act " + act, Look.all(x, 30), want);
            x.undo();
            D.dueText("13: of all strips, after undo() of act " + act, Look.all(x, 30), first);
            SpinStrips y = Starts.fresh();
            y.keep();
            change(y, act);
            D.dueText("15: of all strips, before restore() after act " + act, Look.all(y, 30), want);
            y.restore();
            D.dueText("15: of all strips, after restore() after act " + act, Look.all(y, 30), first);
        }
    }

    private static void theLastOf512Calls() {
        SpinStrips x = Starts.fresh();
        for (int call = 1; call <= 510; call++) {
            x.turn(call % 2, call % 6);
        }
        D.due("an object is used for at most 512 calls: the 511th", x.count(13), 510);
        D.due("an object is used for at most 512 calls: the 512th", x.undo(), 3);
    }
}
