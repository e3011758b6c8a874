import java.util.function.Supplier;
import java.util.function.ToIntFunction;

/** Counts and prints the answers that are not those that are due. */
final class Due {
    private int wrong = 0;
    private int asked = 0;

    void due(String call, long got, long want) {
        asked++;
        if (got != want) {
            wrong++;
            System.out.println(call + " answered " + got + ", due is " + want);
        }
    }

    void dueText(String what, String got, String want) {
        asked++;
        if (!got.equals(want)) {
            wrong++;
            System.out.println(what + ": got " + got + ", due is " + want);
        }
    }

    /** A call that is refused answers what is due, and changes nothing: another object without the call tells the same. */
    void refused(String call, Supplier<SpinStrips> start, ToIntFunction<SpinStrips> asked, int want) {
        SpinStrips x = start.get();
        due(call, asked.applyAsInt(x), want);
        dueText(call + " changes nothing", Look.through(x), Look.through(start.get()));
    }

    /** An act answers what is due, and records the one state that was before it. */
    void recorded(String call, Supplier<SpinStrips> start, ToIntFunction<SpinStrips> act, int want) {
        SpinStrips x = start.get();
        String before = Look.state(x);
        int states = x.count(15);
        due(call, act.applyAsInt(x), want);
        int then = Math.min(states + 1, 4);
        due(call + ": the states in the history then", x.count(15), then);
        due(call + ": undo()", x.undo(), then - 1);
        dueText(call + ": the state after undo()", Look.state(x), before);
    }

    /** Types all characters of a text behind that of the strip. */
    static void typeAll(SpinStrips x, String text) {
        for (int i = 0; i < text.length(); i++) {
            x.type(text.charAt(i));
        }
    }

    /** A new object that has read a text, as a strip or a ring. */
    static SpinStrips read(String text, boolean ring) {
        SpinStrips x = new SpinStrips();
        x.close(ring);
        typeAll(x, text);
        x.read();
        return x;
    }

    /** The spins, column by column, as a text that read() would take. */
    static String spins(SpinStrips x) {
        StringBuilder text = new StringBuilder();
        int columns = x.count(0);
        int rows = x.count(1);
        for (int column = 0; column < columns; column++) {
            if (column > 0) {
                text.append(',');
            }
            for (int row = 0; row < rows; row++) {
                text.append(x.cell(row, column, 0) == 1 ? '+' : '-');
            }
        }
        return text.toString();
    }

    void dueSpins(String when, SpinStrips x, String want) {
        dueText(when + ": the spins", spins(x), want);
    }

    void end() {
        System.out.println(asked + " answers looked at, " + wrong + " not as due");
        if (wrong != 0 || asked == 0) {
            System.exit(1);
        }
    }
}
