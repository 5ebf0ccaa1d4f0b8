/** Promises 1 to 7: a new object, bars, repeats, endings, signs and jumps. */
public final class ScoreTest {
    private static final int LEAST = Integer.MIN_VALUE;
    private static final int MOST = Integer.MAX_VALUE;

    public static void main(String[] args) {
        newObject();
        bars();
        repeats();
        repeatsWithinOneAnother();
        twentyRepeats();
        endings();
        endingsAndRepeats();
        twentyEndings();
        signs();
        jumps();
        Check.end();
    }

    private static void newObject() {
        RepeatWays x = new RepeatWays();
        for (int what = 0; what < 8; what++) {
            Check.is("new: told(" + what + ")", x.told(what), 0);
        }
        Check.is("new: fault", x.fault(), RepeatWays.NONE);
        Check.throwsBounds("new: played", () -> x.played(0, 0));
        Check.throwsBounds("new: folded", () -> x.folded(0, 0));
        Check.throwsBounds("new: fold", () -> x.fold(0, 1));
        Check.throwsBounds("new: times", () -> x.times(0));
        Check.throwsBounds("new: comes", () -> x.comes(0));
        for (int sign = 0; sign < 4; sign++) {
            Check.is("new: sign " + sign, x.sign(sign, RepeatWays.NONE), RepeatWays.NONE);
        }
        Check.is("NONE", RepeatWays.NONE, -1);
        new RepeatWays().bar(5);
        Check.is("another object's bars", x.told(0), 0);
    }

    private static void bars() {
        RepeatWays x = new RepeatWays();
        for (int k = 0; k < 60; k++) {
            Check.is("bar", x.bar(k == 0 ? LEAST : k == 59 ? MOST : k), k);
        }
        Check.throwsState("bar 61", () -> x.bar(1));
        Check.is("bars", x.told(0), 60);
        Check.is("unfold of 60", x.unfold(), 60);
        Check.is("content of the first", x.played(0, 1), LEAST);
        Check.is("content of the last", x.played(59, 1), MOST);
        Check.is("repeat of all", x.repeat(0, 59, 2), 0);
    }

    private static void repeats() {
        RepeatWays x = Check.scoreOf(10);
        Check.throwsBounds("from -1", () -> x.repeat(-1, 3, 2));
        Check.throwsBounds("from 10", () -> x.repeat(10, 3, 9));
        Check.throwsBounds("to 10", () -> x.repeat(0, 10, 1));
        Check.throwsBounds("to -1", () -> x.repeat(3, -1, 2));
        Check.throwsBounds("from most", () -> x.repeat(MOST, MOST, 2));
        Check.throwsBounds("from least", () -> x.repeat(LEAST, 0, 2));
        Check.throwsArgument("to below from", () -> x.repeat(3, 2, 2));
        for (int times : new int[] {LEAST, -2, 0, 1, 5, MOST}) {
            Check.throwsArgument("times", () -> x.repeat(2, 3, times));
        }
        Check.is("repeats, none came", x.told(1), 0);
        Check.is("2 to 5", x.repeat(2, 5, 2), 0);
        Check.throwsState("the same bars", () -> x.repeat(2, 5, 3));
        Check.throwsArgument("wrong times before the same bars", () -> x.repeat(2, 5, 5));
        Check.throwsState("over its first bar", () -> x.repeat(1, 2, 2));
        Check.throwsState("over its last bar", () -> x.repeat(5, 6, 2));
        Check.throwsState("over its middle", () -> x.repeat(0, 4, 2));
        Check.is("just behind", x.repeat(6, 6, 4), 1);
        Check.is("just ahead", x.repeat(0, 1, 3), 2);
        Check.is("within, the same first bar", x.repeat(2, 3, 2), 3);
        Check.is("within, the same last bar", x.repeat(4, 5, 2), 4);
        Check.is("around", x.repeat(2, 6, 2), 5);
        Check.is("repeats", x.told(1), 6);
    }

    private static void repeatsWithinOneAnother() {
        RepeatWays x = Check.scoreOf(10);
        x.repeat(2, 7, 2);
        x.repeat(3, 6, 2);
        x.repeat(4, 5, 2);
        Check.throwsState("four, the new one inside", () -> x.repeat(4, 4, 2));
        Check.throwsState("four, the new one outside", () -> x.repeat(0, 9, 2));
        Check.throwsState("four, the new one third", () -> x.repeat(3, 5, 2));
        Check.throwsState("four, the new one second", () -> x.repeat(2, 6, 2));
        Check.is("three elsewhere", x.repeat(3, 3, 2), 3);
        Check.is("two elsewhere", x.repeat(7, 7, 2), 4);
        Check.is("apart", x.repeat(8, 9, 2), 5);
        RepeatWays y = Check.scoreOf(5);
        y.repeat(2, 2, 2);
        y.repeat(0, 4, 2);
        Check.is("between two", y.repeat(1, 3, 2), 2);
        y.unfold();
        Check.is("played with one between two", Check.row(y),
                "0 1 2 2 3 1 2 2 3 4 0 1 2 2 3 1 2 2 3 4");
    }

    private static void twentyRepeats() {
        RepeatWays x = Check.scoreOf(60);
        for (int k = 0; k < 20; k++) {
            Check.is("one of twenty", x.repeat(k, k, 2), k);
        }
        Check.throwsState("repeat 21", () -> x.repeat(30, 31, 2));
        Check.throwsArgument("repeat 21, wrong times", () -> x.repeat(30, 31, 0));
        Check.is("twenty", x.told(1), 20);
    }

    private static void endings() {
        RepeatWays x = Check.scoreOf(10);
        Check.throwsBounds("no repeat", () -> x.ending(0, 1, 1, 1));
        x.repeat(2, 6, 3);
        Check.throwsBounds("repeat -1", () -> x.ending(-1, 3, 3, 1));
        Check.throwsBounds("repeat 1", () -> x.ending(1, 3, 2, 0));
        Check.throwsBounds("repeat most", () -> x.ending(MOST, 3, 3, 1));
        Check.throwsBounds("from -1", () -> x.ending(0, -1, 3, 0));
        Check.throwsBounds("to 10", () -> x.ending(0, 3, 10, 0));
        Check.throwsBounds("from 10", () -> x.ending(0, 10, 3, 1));
        Check.throwsArgument("to below from", () -> x.ending(0, 4, 3, 1));
        for (int passes : new int[] {0, 8, 9, 15, -1, LEAST, 1 << 30}) {
            Check.throwsArgument("passes " + passes, () -> x.ending(0, 3, 3, passes));
        }
        Check.throwsArgument("passes before the place", () -> x.ending(0, 0, 9, 8));
        Check.throwsState("ahead of the repeat", () -> x.ending(0, 1, 1, 1));
        Check.throwsState("behind the repeat", () -> x.ending(0, 7, 7, 1));
        Check.throwsState("over its first bar", () -> x.ending(0, 1, 2, 1));
        Check.throwsState("over its last bar", () -> x.ending(0, 6, 7, 1));
        Check.throwsState("around the repeat", () -> x.ending(0, 1, 7, 1));
        Check.is("no endings yet", x.told(2), 0);
        Check.is("all passes", x.ending(0, 4, 5, 7), 0);
        Check.throwsState("the same bars", () -> x.ending(0, 4, 5, 1));
        Check.throwsState("within another", () -> x.ending(0, 4, 4, 1));
        Check.throwsState("over another's first", () -> x.ending(0, 3, 4, 1));
        Check.throwsState("over another's last", () -> x.ending(0, 5, 6, 1));
        Check.throwsState("around another", () -> x.ending(0, 2, 6, 1));
        Check.is("just behind another", x.ending(0, 6, 6, 4), 1);
        Check.is("just ahead of another", x.ending(0, 2, 3, 2), 2);
        Check.is("endings", x.told(2), 3);
        RepeatWays y = Check.scoreOf(2);
        y.repeat(0, 1, 4);
        Check.throwsArgument("pass 5 of 4", () -> y.ending(0, 0, 0, 16));
        Check.is("pass 4 of 4, the repeat's own bars", y.ending(0, 0, 1, 8), 0);
    }

    private static void endingsAndRepeats() {
        RepeatWays x = Check.scoreOf(12);
        x.repeat(0, 9, 2);
        x.repeat(2, 5, 2);
        Check.throwsState("an ending over another repeat's first", () -> x.ending(0, 1, 2, 1));
        Check.throwsState("an ending over another repeat's last", () -> x.ending(0, 5, 6, 1));
        Check.is("an ending with another repeat's bars", x.ending(0, 2, 5, 1), 0);
        Check.is("an ending apart from a repeat", x.ending(0, 7, 8, 2), 1);
        Check.throwsState("a repeat over an ending's first", () -> x.repeat(6, 7, 2));
        Check.throwsState("a repeat over an ending's last", () -> x.repeat(8, 9, 2));
        Check.is("a repeat with an ending's bars", x.repeat(7, 8, 2), 2);
        Check.is("a repeat within an ending", x.repeat(8, 8, 2), 3);
        Check.is("a repeat around an ending", x.repeat(1, 6, 2), 4);
        RepeatWays y = Check.scoreOf(6);
        y.repeat(0, 5, 2);
        y.repeat(1, 3, 2);
        Check.is("an outer repeat's ending within an inner one", y.ending(0, 2, 3, 1), 0);
        Check.is("an outer repeat's ending around an inner one's", y.ending(0, 4, 5, 1), 1);
        Check.throwsState("an ending of a repeat elsewhere", () -> y.ending(1, 0, 0, 1));
    }

    private static void twentyEndings() {
        RepeatWays x = Check.scoreOf(30);
        x.repeat(0, 29, 2);
        for (int k = 0; k < 20; k++) {
            Check.is("one of twenty endings", x.ending(0, k, k, 3), k);
        }
        Check.throwsState("ending 21", () -> x.ending(0, 25, 25, 1));
        Check.is("twenty endings", x.told(2), 20);
        Check.is("unfold with twenty endings", x.unfold(), 60);
    }

    private static void signs() {
        RepeatWays x = Check.scoreOf(3);
        for (int sign = 0; sign < 4; sign++) {
            Check.is("sign comes", x.sign(sign, sign % 3), -1);
        }
        for (int sign = 0; sign < 4; sign++) {
            Check.is("sign moves", x.sign(sign, 2), sign % 3);
        }
        Check.is("sign stays", x.sign(1, 2), 2);
        Check.is("sign goes", x.sign(1, -1), 2);
        Check.is("sign was nowhere", x.sign(1, -1), -1);
        Check.is("another sign is there still", x.sign(2, 0), 2);
        Check.throwsArgument("sign 4", () -> x.sign(4, 0));
        Check.throwsArgument("sign -1, wrong bar too", () -> x.sign(-1, 9));
        Check.throwsArgument("sign most", () -> x.sign(MOST, 0));
        Check.throwsBounds("bar 3", () -> x.sign(0, 3));
        Check.throwsBounds("bar -2", () -> x.sign(0, -2));
        Check.throwsBounds("bar least", () -> x.sign(0, LEAST));
        Check.is("nothing changed", x.sign(0, 0), 2);
    }

    private static void jumps() {
        RepeatWays x = Check.scoreOf(4);
        Check.throwsBounds("jump behind 4", () -> x.jump(4, 9, 9, true));
        Check.throwsBounds("jump behind -1", () -> x.jump(-1, 0, 0, true));
        for (int to : new int[] {LEAST, -1, 2, MOST}) {
            Check.throwsArgument("to " + to, () -> x.jump(0, to, 0, true));
        }
        for (int till : new int[] {LEAST, -1, 3, MOST}) {
            Check.throwsArgument("till " + till, () -> x.jump(0, 0, till, true));
        }
        Check.throwsBounds("plain 4", () -> x.plain(4));
        Check.throwsBounds("plain -1", () -> x.plain(-1));
        Check.throwsState("plain without a jump", () -> x.plain(0));
        Check.is("no jumps", x.told(3), 0);
        x.jump(3, 1, 1, true);
        x.jump(3, 0, 0, true);
        Check.is("the jump became another", x.told(3), 1);
        x.jump(0, 0, 0, false);
        Check.is("two jumps", x.told(3), 2);
        Check.throwsArgument("the jump stays", () -> x.jump(3, 1, 3, true));
        x.unfold();
        Check.is("played with both", Check.row(x), "0 0 1 2 3 0 1 2 3");
        x.plain(0);
        Check.is("one went", x.told(3), 1);
        Check.throwsState("plain again", () -> x.plain(0));
        x.unfold();
        Check.is("played with one", Check.row(x), "0 1 2 3 0 1 2 3");
        x.plain(3);
        x.unfold();
        Check.is("played with none", Check.row(x), "0 1 2 3");
    }
}
