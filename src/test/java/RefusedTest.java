/**
 * "Of several the first one. A call that throws changes nothing.": each refused call of each promise,
 * on a new score, on one that was played and folded, on one with a fault, and on a full one.
 */
public final class RefusedTest {
    private static final Twins PLAYED = new Twins("played", RefusedTest::played);
    private static final Twins FAULTY = new Twins("with a fault", RefusedTest::faulty);
    private static final Twins EMPTY = new Twins("new", RepeatWays::new);
    private static final Twins DEEP = new Twins("three within one another", RefusedTest::deep);
    private static final Twins FULL = new Twins("full", RefusedTest::full);
    private static final int LEAST = Integer.MIN_VALUE;
    private static final int MOST = Integer.MAX_VALUE;

    public static void main(String[] args) {
        onNewObject();
        for (Twins twins : new Twins[] {PLAYED, FAULTY}) {
            repeat(twins);
            ending(twins);
            sign(twins);
            jumpAndPlain(twins);
            told(twins);
            folded(twins);
            timesAndComes(twins);
        }
        playedAndFold();
        withoutPlayed();
        fourthWithin();
        full60And20();
        Check.end();
    }

    /** 0 1 0 1 2 3, 0 1 0 1 4 5, then to SEGNO without repeats: 4 till FINE. */
    private static RepeatWays played() {
        RepeatWays x = new RepeatWays();
        for (int content : new int[] {5, 5, 6, 7, 5, 5}) {
            x.bar(content);
        }
        x.repeat(0, 4, 2);
        x.repeat(0, 1, 2);
        x.ending(0, 2, 3, 1);
        x.ending(0, 4, 4, 2);
        x.sign(0, 2);
        x.sign(1, 1);
        x.sign(2, 3);
        x.sign(3, 4);
        x.jump(5, 1, 1, false);
        x.unfold();
        x.fold(0, 9);
        return x;
    }

    private static RepeatWays faulty() {
        RepeatWays x = played();
        x.sign(3, RepeatWays.NONE);
        x.unfold();
        return x;
    }

    private static RepeatWays deep() {
        RepeatWays x = Check.scoreOf(9);
        x.repeat(1, 7, 2);
        x.repeat(2, 6, 2);
        x.repeat(3, 5, 2);
        return x;
    }

    /** 60 bars, 20 repeats, 20 endings. */
    private static RepeatWays full() {
        RepeatWays x = Check.scoreOf(60);
        x.repeat(0, 59, 2);
        for (int k = 1; k < 20; k++) {
            x.repeat(k, k, 2);
        }
        for (int k = 0; k < 20; k++) {
            x.ending(0, 20 + k, 20 + k, 1);
        }
        return x;
    }

    private static void scoresAreAsMeant() {
        Check.is("played", Check.row(played()), "0 1 0 1 2 3 0 1 0 1 4 5 4");
        Check.is("faulty", faulty().fault(), 5);
        Check.is("full", full().told(0) + " " + full().told(1) + " " + full().told(2), "60 20 20");
    }

    private static void onNewObject() {
        scoresAreAsMeant();
        for (int bar : new int[] {LEAST, -1, 0, 1, MOST}) {
            EMPTY.bounds("repeat from " + bar, x -> x.repeat(bar, bar, 2));
            EMPTY.bounds("ending of " + bar, x -> x.ending(bar, 0, 0, 1));
            EMPTY.bounds("jump behind " + bar, x -> x.jump(bar, 0, 0, true));
            EMPTY.bounds("plain " + bar, x -> x.plain(bar));
            EMPTY.bounds("played " + bar, x -> x.played(bar, 0));
            EMPTY.bounds("times " + bar, x -> x.times(bar));
            EMPTY.bounds("comes " + bar, x -> x.comes(bar));
            EMPTY.bounds("fold from " + bar, x -> x.fold(bar, 1));
            EMPTY.bounds("folded " + bar, x -> x.folded(bar, 0));
        }
        EMPTY.bounds("sign at 0", x -> x.sign(0, 0));
        EMPTY.bounds("sign at -2", x -> x.sign(0, -2));
        EMPTY.argument("sign 4", x -> x.sign(4, 0));
        EMPTY.argument("fold of 0", x -> x.fold(0, 0));
        EMPTY.argument("told 8", x -> x.told(8));
    }

    private static void repeat(Twins twins) {
        for (int bar : Twins.outside(6)) {
            twins.bounds("repeat from " + bar, x -> x.repeat(bar, 5, 2));
            twins.bounds("repeat to " + bar, x -> x.repeat(5, bar, 2));
            twins.bounds("repeat from and to " + bar, x -> x.repeat(bar, bar, 2));
            twins.bounds("repeat, bar before times " + bar, x -> x.repeat(bar, 5, 1));
            twins.bounds("repeat, bar before the place " + bar, x -> x.repeat(1, bar, 2));
        }
        for (int times : new int[] {LEAST, -2, -1, 0, 1, 5, 6, 34, MOST}) {
            twins.argument("repeat times " + times, x -> x.repeat(5, 5, times));
            twins.argument("repeat, times before the place " + times, x -> x.repeat(0, 4, times));
        }
        twins.argument("repeat, to is below from", x -> x.repeat(5, 4, 2));
        twins.argument("repeat, to is far below from", x -> x.repeat(5, 0, 2));
        twins.argument("repeat, to below from, and times", x -> x.repeat(5, 4, 5));
        twins.state("repeat of the same bars", x -> x.repeat(0, 4, 3));
        twins.state("repeat of the inner one's bars", x -> x.repeat(0, 1, 2));
        twins.state("repeat over the outer one's end", x -> x.repeat(4, 5, 2));
        twins.state("repeat over the inner one's end", x -> x.repeat(1, 2, 2));
        twins.state("repeat over an ending's end", x -> x.repeat(3, 4, 2));
    }

    private static void ending(Twins twins) {
        for (int number : Twins.outside(2)) {
            twins.bounds("ending of " + number, x -> x.ending(number, 1, 1, 1));
            twins.bounds("ending, repeat before passes " + number, x -> x.ending(number, 1, 1, 0));
            twins.bounds("ending, repeat before to " + number, x -> x.ending(number, 1, 0, 1));
            twins.bounds("ending, repeat before the place " + number, x -> x.ending(number, 5, 5, 1));
        }
        for (int bar : Twins.outside(6)) {
            twins.bounds("ending from " + bar, x -> x.ending(1, bar, 1, 1));
            twins.bounds("ending to " + bar, x -> x.ending(1, 1, bar, 1));
            twins.bounds("ending, bar before passes " + bar, x -> x.ending(1, 1, bar, 0));
        }
        for (int passes : new int[] {0, 4, 5, 8, 16, 1 << 30, LEAST, LEAST + 1, -1, -2, -4, MOST}) {
            twins.argument("ending's passes " + passes, x -> x.ending(1, 1, 1, passes));
            twins.argument("ending, passes before the place " + passes, x -> x.ending(1, 5, 5, passes));
        }
        twins.argument("ending, to is below from", x -> x.ending(1, 1, 0, 1));
        twins.argument("ending, to below from before the place", x -> x.ending(1, 5, 4, 1));
        twins.state("ending behind the repeat", x -> x.ending(1, 5, 5, 1));
        twins.state("ending just behind the repeat", x -> x.ending(1, 2, 2, 1));
        twins.state("ending over the repeat's end", x -> x.ending(1, 1, 2, 1));
        twins.state("ending over another repeat's end", x -> x.ending(0, 1, 2, 1));
        twins.state("ending of the same bars", x -> x.ending(0, 2, 3, 2));
        twins.state("ending within another", x -> x.ending(0, 3, 3, 2));
        twins.state("ending around another", x -> x.ending(0, 2, 4, 2));
    }

    private static void sign(Twins twins) {
        for (int sign : Twins.outside(4)) {
            twins.argument("sign " + sign, x -> x.sign(sign, 0));
            twins.argument("sign goes " + sign, x -> x.sign(sign, RepeatWays.NONE));
            twins.argument("sign before the bar " + sign, x -> x.sign(sign, 6));
        }
        for (int bar : Twins.outside(6)) {
            for (int sign = 0; sign < 4 && bar != RepeatWays.NONE; sign++) {
                int which = sign;
                twins.bounds("sign " + sign + " at " + bar, x -> x.sign(which, bar));
            }
        }
    }

    private static void jumpAndPlain(Twins twins) {
        for (int bar : Twins.outside(6)) {
            twins.bounds("jump behind " + bar, x -> x.jump(bar, 0, 0, true));
            twins.bounds("jump, bar before to " + bar, x -> x.jump(bar, 2, 0, true));
            twins.bounds("jump, bar before till " + bar, x -> x.jump(bar, 0, 3, true));
            twins.bounds("plain " + bar, x -> x.plain(bar));
        }
        for (int to : Twins.outside(2)) {
            twins.argument("jump to " + to, x -> x.jump(0, to, 0, true));
            twins.argument("a jump that is there, to " + to, x -> x.jump(5, to, 0, true));
        }
        for (int till : Twins.outside(3)) {
            twins.argument("jump till " + till, x -> x.jump(0, 0, till, true));
            twins.argument("a jump that is there, till " + till, x -> x.jump(5, 0, till, true));
        }
        for (int bar = 0; bar < 5; bar++) {
            int behind = bar;
            twins.state("plain without a jump " + bar, x -> x.plain(behind));
        }
    }

    private static void told(Twins twins) {
        for (int what : Twins.outside(8)) {
            twins.argument("told " + what, x -> x.told(what));
        }
    }

    private static void folded(Twins twins) {
        int items = played().told(6);
        for (int k : Twins.outside(items)) {
            twins.bounds("folded " + k, x -> x.folded(k, 0));
            twins.bounds("folded, item before what " + k, x -> x.folded(k, 2));
        }
        for (int what : Twins.outside(2)) {
            twins.argument("folded, what " + what, x -> x.folded(0, what));
            twins.argument("folded, the last, what " + what, x -> x.folded(items - 1, what));
        }
    }

    private static void timesAndComes(Twins twins) {
        for (int bar : Twins.outside(6)) {
            twins.bounds("times " + bar, x -> x.times(bar));
            twins.bounds("comes " + bar, x -> x.comes(bar));
        }
    }

    private static void playedAndFold() {
        for (int i : Twins.outside(13)) {
            PLAYED.bounds("played " + i, x -> x.played(i, 0));
            PLAYED.bounds("played, i before what " + i, x -> x.played(i, 5));
            PLAYED.bounds("fold from " + i, x -> x.fold(i, 1));
            PLAYED.bounds("fold of 40 from " + i, x -> x.fold(i, 40));
        }
        for (int what : Twins.outside(5)) {
            PLAYED.argument("played, what " + what, x -> x.played(0, what));
            PLAYED.argument("played, the last, what " + what, x -> x.played(12, what));
        }
        for (int n : new int[] {LEAST, -40, -1, 0, 41, 42, MOST}) {
            PLAYED.argument("fold of " + n, x -> x.fold(0, n));
            PLAYED.argument("fold, n before i " + n, x -> x.fold(-1, n));
            PLAYED.argument("fold, n before what is there " + n, x -> x.fold(13, n));
        }
        for (int i = 0; i < 13; i++) {
            int from = i;
            PLAYED.bounds("fold of one too many from " + i, x -> x.fold(from, 14 - from));
        }
    }

    private static void withoutPlayed() {
        for (int i : new int[] {LEAST, -1, 0, 1, 12, MOST}) {
            FAULTY.bounds("played " + i, x -> x.played(i, 0));
            FAULTY.bounds("fold from " + i, x -> x.fold(i, 1));
        }
        FAULTY.argument("fold of 41", x -> x.fold(0, 41));
        FAULTY.argument("fold of 0", x -> x.fold(0, 0));
    }

    private static void fourthWithin() {
        DEEP.state("a fourth around", x -> x.repeat(0, 8, 2));
        DEEP.state("a fourth around, the same first bar", x -> x.repeat(1, 8, 2));
        DEEP.state("a fourth, second", x -> x.repeat(1, 6, 2));
        DEEP.state("a fourth, third", x -> x.repeat(3, 6, 2));
        DEEP.state("a fourth within", x -> x.repeat(4, 4, 2));
        DEEP.argument("a fourth, times first", x -> x.repeat(4, 4, 5));
        DEEP.argument("a fourth, to below from first", x -> x.repeat(5, 4, 2));
        DEEP.bounds("a fourth, bar first", x -> x.repeat(0, 9, 2));
    }

    private static void full60And20() {
        FULL.state("bar 61", x -> x.bar(7));
        FULL.state("repeat 21", x -> x.repeat(50, 51, 2));
        FULL.argument("repeat 21, times first", x -> x.repeat(50, 51, 1));
        FULL.argument("repeat 21, to below from first", x -> x.repeat(51, 50, 2));
        FULL.bounds("repeat 21, bar first", x -> x.repeat(50, 60, 2));
        FULL.state("ending 21", x -> x.ending(0, 50, 50, 1));
        FULL.argument("ending 21, passes first", x -> x.ending(0, 50, 50, 4));
        FULL.argument("ending 21, to below from first", x -> x.ending(0, 50, 49, 1));
        FULL.bounds("ending 21, bar first", x -> x.ending(0, 50, 60, 1));
        FULL.bounds("ending 21, repeat first", x -> x.ending(20, 50, 50, 1));
        FULL.bounds("jump behind 60", x -> x.jump(60, 0, 0, true));
        FULL.bounds("sign at 60", x -> x.sign(0, 60));
        FULL.bounds("plain 60", x -> x.plain(60));
        FULL.bounds("times of 60", x -> x.times(60));
        FULL.bounds("comes of 60", x -> x.comes(60));
    }
}
