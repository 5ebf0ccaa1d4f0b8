import java.util.function.Consumer;
import java.util.function.Supplier;

/**
 * A call that throws changes nothing: of two objects made alike, one is asked what is refused; all
 * that both answer afterwards must be alike.
 */
final class Twins {
    private static final int LEAST = Integer.MIN_VALUE;
    private static final int MOST = Integer.MAX_VALUE;
    // An object has 512 calls: of a long row this much is looked at.
    private static final int MOST_LOOKED_AT = 20;

    private final String name;
    private final Supplier<RepeatWays> make;

    Twins(String name, Supplier<RepeatWays> make) {
        this.name = name;
        this.make = make;
    }

    void bounds(String what, Consumer<RepeatWays> call) {
        refuses(what, "IndexOutOfBoundsException", call);
    }

    void argument(String what, Consumer<RepeatWays> call) {
        refuses(what, "IllegalArgumentException", call);
    }

    void state(String what, Consumer<RepeatWays> call) {
        refuses(what, "IllegalStateException", call);
    }

    private void refuses(String what, String exception, Consumer<RepeatWays> call) {
        String label = name + ", " + what;
        RepeatWays asked = make.get();
        RepeatWays other = make.get();
        Check.is(label, Check.thrownBy(() -> call.accept(asked)), exception);
        Check.is(label + ": what is seen then", seen(asked), seen(other));
        Check.is(label + ": what comes then", afterwards(asked), afterwards(other));
    }

    private static String seen(RepeatWays x) {
        StringBuilder text = new StringBuilder();
        int[] told = new int[8];
        for (int what = 0; what < 8; what++) {
            told[what] = x.told(what);
            text.append(told[what]).append(' ');
        }
        text.append("fault ").append(x.fault());
        for (int bar = 0; bar < told[0]; bar++) {
            text.append(" bar ").append(x.times(bar)).append(' ').append(x.comes(bar));
        }
        for (int i = 0; i < told[4] && i < MOST_LOOKED_AT; i++) {
            text.append(" played");
            for (int what = 0; what < 5; what++) {
                text.append(' ').append(x.played(i, what));
            }
        }
        for (int k = 0; k < told[6] && k < MOST_LOOKED_AT; k++) {
            text.append(" item ").append(x.folded(k, 0)).append(' ').append(x.folded(k, 1));
        }
        return text.toString();
    }

    /** Signs, jumps, repeats and endings are seen by what is played, and by taking them away. */
    private static String afterwards(RepeatWays x) {
        StringBuilder text = new StringBuilder("unfold " + x.unfold() + " " + seen(x));
        for (int sign = 0; sign < 4; sign++) {
            text.append(" sign ").append(x.sign(sign, RepeatWays.NONE));
        }
        int bars = x.told(0);
        for (int k = 0; k < bars && k < MOST_LOOKED_AT; k++) {
            int bar = k;
            text.append(" jump ").append(Check.thrownBy(() -> x.plain(bar)));
        }
        return text.append(" unfold ").append(x.unfold()).toString();
    }

    /** Numbers that are none of 0 .. size - 1. */
    static int[] outside(int size) {
        return new int[] {LEAST, LEAST + 1, -2, -1, size, size + 1, 64, 1 << 16, MOST - 1, MOST};
    }
}
