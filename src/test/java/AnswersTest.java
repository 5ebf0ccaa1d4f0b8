/** The sentences under the heading of each promise, 1 to 15, at their edges. */
public final class AnswersTest {
    private static final int LEAST = Integer.MIN_VALUE;
    private static final int MOST = Integer.MAX_VALUE;
    private static final int NONE = RepeatWays.NONE;

    public static void main(String[] args) {
        newObject();
        bar();
        repeat();
        ending();
        sign();
        jump();
        plain();
        unfold();
        fault();
        played();
        timesAndComes();
        fold();
        foldNeverWrapsAround();
        folded();
        told();
        staysTillTheNextTime();
        nothingUnfoldedAfterAFault();
        the512thCall();
        Check.end();
    }

    private static String allTold(RepeatWays x) {
        StringBuilder text = new StringBuilder();
        for (int what = 0; what < 8; what++) {
            text.append(what == 0 ? "" : " ").append(x.told(what));
        }
        return text.toString();
    }

    /** 1: "No bars, signs; nothing UNFOLDED, FOLDED." */
    private static void newObject() {
        Check.is("NONE", NONE, -1);
        RepeatWays used = Check.scoreOf(3);
        used.repeat(0, 1, 2);
        used.ending(0, 1, 1, 1);
        for (int sign = 0; sign < 4; sign++) {
            used.sign(sign, 0);
        }
        used.jump(0, 1, 1, false);
        used.unfold();
        used.fold(0, 2);
        RepeatWays x = new RepeatWays();
        Check.is("new: told", allTold(x), "0 0 0 0 0 0 0 0");
        Check.is("new: fault", x.fault(), NONE);
        Check.throwsBounds("new: nothing unfolded", () -> x.played(0, 0));
        Check.throwsBounds("new: nothing to fold", () -> x.fold(0, 1));
        Check.throwsBounds("new: nothing folded", () -> x.folded(0, 0));
        Check.throwsBounds("new: no bar to time", () -> x.times(0));
        Check.throwsBounds("new: no bar to come to", () -> x.comes(0));
        for (int sign = 0; sign < 4; sign++) {
            Check.is("new: no sign " + sign, x.sign(sign, NONE), NONE);
        }
        Check.is("new: unfold", x.unfold(), 0);
        Check.is("new: told behind unfold", allTold(x), "0 0 0 0 0 0 0 0");
    }

    /** 2: "A bar behind the others: its number." */
    private static void bar() {
        RepeatWays x = new RepeatWays();
        int[] contents = {LEAST, LEAST + 1, -1, 0, 0, 1, MOST - 1, MOST};
        for (int k = 0; k < contents.length; k++) {
            Check.is("bar " + k, x.bar(contents[k]), k);
        }
        x.unfold();
        for (int k = 0; k < contents.length; k++) {
            Check.is("content " + k, x.played(k, 1), contents[k]);
        }
        x.repeat(0, 7, 2);
        Check.is("a bar behind a repeat is not in it", x.bar(5), 8);
        Check.is("played then", x.unfold(), 17);
        Check.is("its passes", x.played(16, 3) + " " + x.played(16, 4), "0 0");
    }

    /** 3: "its number, from 0 (20 at most) ... there are 20." */
    private static void repeat() {
        RepeatWays x = Check.scoreOf(60);
        for (int k = 0; k < 20; k++) {
            Check.is("repeat " + k, x.repeat(59 - k, 59 - k, 2), k);
            Check.is("repeats", x.told(1), k + 1);
        }
        Check.throwsState("repeat 21 apart", () -> x.repeat(0, 0, 2));
        Check.throwsState("repeat 21 around", () -> x.repeat(0, 59, 2));
        Check.is("20 stay", x.told(1) + " " + x.unfold(), "20 80");
        Check.is("the last one of them can have an ending", x.ending(19, 40, 40, 1), 0);
        Check.throwsBounds("there is no repeat 20", () -> x.ending(20, 0, 0, 1));
    }

    /** 4: "bit k of passes is pass k + 1: its number, from 0 (20 at most) ... there are 20." */
    private static void ending() {
        for (int bit = 0; bit < 4; bit++) {
            RepeatWays x = Check.scoreOf(1);
            x.repeat(0, 0, 4);
            x.ending(0, 0, 0, 1 << bit);
            Check.is("bit " + bit + ": how many", x.unfold(), 1);
            Check.is("bit " + bit + ": pass", x.played(0, 3), bit + 1);
        }
        RepeatWays y = Check.scoreOf(60);
        y.repeat(0, 59, 2);
        for (int k = 0; k < 20; k++) {
            Check.is("ending " + k, y.ending(0, 59 - k, 59 - k, 1), k);
            Check.is("endings", y.told(2), k + 1);
        }
        Check.throwsState("ending 21", () -> y.ending(0, 0, 0, 1));
        Check.is("20 stay", y.told(2) + " " + y.unfold(), "20 100");
    }

    /** 5: "A SIGN comes to a bar (NONE: it is nowhere): where it was, NONE." */
    private static void sign() {
        RepeatWays x = Check.scoreOf(60);
        for (int sign = 0; sign < 4; sign++) {
            String what = "sign " + sign;
            Check.is(what + " was nowhere", x.sign(sign, 0), NONE);
            Check.is(what + " was at the first bar", x.sign(sign, 59), 0);
            Check.is(what + " was at the last bar", x.sign(sign, 59), 59);
            Check.is(what + " stayed there", x.sign(sign, NONE), 59);
            Check.is(what + " is nowhere", x.sign(sign, NONE), NONE);
            Check.is(what + " is nowhere still", x.sign(sign, 7 + sign), NONE);
        }
        for (int sign = 0; sign < 4; sign++) {
            Check.is("no sign moves another", x.sign(sign, NONE), 7 + sign);
        }
    }

    /** 6: "The JUMP behind a bar becomes this one: to ...; till ...": whole, not in parts. */
    private static void jump() {
        RepeatWays x = Check.scoreOf(3);
        x.repeat(1, 1, 2);
        x.sign(0, 1);
        x.sign(1, 2);
        x.sign(2, 0);
        x.sign(3, 1);
        x.jump(2, 0, 0, true);
        Check.is("to 0, till 0", x.unfold() + ": " + Check.row(x), "8: 0 1 1 2 0 1 1 2");
        x.jump(2, 1, 0, true);
        Check.is("to 1, till 0", x.unfold() + ": " + Check.row(x), "7: 0 1 1 2 1 1 2");
        x.jump(2, 1, 1, true);
        Check.is("to 1, till 1", x.unfold() + ": " + Check.row(x), "6: 0 1 1 2 1 1");
        x.jump(2, 1, 1, false);
        Check.is("to 1, till 1, without repeats", x.unfold() + ": " + Check.row(x), "5: 0 1 1 2 1");
        x.jump(2, 0, 2, false);
        Check.is("to 0, till 2, without repeats", x.unfold() + ": " + Check.row(x), "6: 0 1 1 2 0 2");
        x.jump(2, 0, 0, false);
        Check.is("to 0, till 0, without repeats", x.unfold() + ": " + Check.row(x), "7: 0 1 1 2 0 1 2");
        x.jump(2, 0, 0, true);
        Check.is("as at first", x.unfold() + ": " + Check.row(x), "8: 0 1 1 2 0 1 1 2");
        Check.is("one jump", x.told(3), 1);
    }

    /** 7: "The JUMP behind a bar goes. ... IllegalState: there is none." */
    private static void plain() {
        RepeatWays x = Check.scoreOf(2);
        Check.throwsState("none was there", () -> x.plain(1));
        x.jump(1, 1, 1, true);
        x.jump(0, 0, 0, true);
        Check.is("it has a fault", x.unfold(), -2);
        x.plain(1);
        Check.is("it and its fault went, the other stays", x.told(3) + " " + x.unfold(), "1 3");
        Check.throwsState("it is gone", () -> x.plain(1));
        x.plain(0);
        Check.throwsState("both are gone", () -> x.plain(0));
        Check.is("none", x.told(3) + " " + x.unfold(), "0 2");
        x.jump(1, 0, 0, true);
        Check.is("a new one", x.told(3) + " " + x.unfold(), "1 4");
        x.plain(1);
        Check.is("none again", x.told(3), 0);
    }

    /** 8: "how many bars are PLAYED; -1 less the FAULT." */
    private static void unfold() {
        RepeatWays x = Check.scoreOf(2);
        Check.is("no fault", x.unfold(), 2);
        x.jump(1, 1, 0, true);
        Check.is("fault 1", x.unfold(), -2);
        x.jump(1, 0, 1, true);
        Check.is("fault 2", x.unfold(), -3);
        x.jump(1, 0, 2, true);
        Check.is("fault 3", x.unfold(), -4);
        RepeatWays y = Check.scoreOf(16);
        y.repeat(0, 15, 4);
        y.repeat(0, 14, 4);
        y.repeat(0, 13, 4);
        Check.is("below 1000", y.unfold(), 14 * 64 + 16 + 4);
        y.jump(15, 0, 0, true);
        Check.is("fault 4", y.unfold(), -5);
        y.plain(15);
        Check.is("again", y.unfold() + " " + y.unfold(), "916 916");
    }

    /** 9: "The bar of the FAULT of the latest unfold() ...; NONE without." */
    private static void fault() {
        RepeatWays x = Check.scoreOf(60);
        Check.is("no unfold yet", x.fault(), NONE);
        x.jump(59, 1, 0, true);
        Check.is("a fault is found by unfold alone", x.fault(), NONE);
        x.unfold();
        Check.is("the last bar", x.fault(), 59);
        x.jump(0, 1, 0, true);
        Check.is("the latest unfold's", x.fault(), 59);
        x.unfold();
        Check.is("the first bar", x.fault(), 0);
        x.plain(0);
        x.plain(59);
        Check.is("still the latest unfold's", x.fault(), 0);
        x.unfold();
        Check.is("none then", x.fault(), NONE);
    }

    /** 10: "Of the i-th that is PLAYED, from 0: its bar, CONTENT, how many JUMPS acted before, ..." */
    private static void played() {
        RepeatWays x = Check.scoreOf(4);
        x.repeat(1, 2, 3);
        x.repeat(2, 2, 2);
        x.jump(3, 0, 0, false);
        Check.is("how many", x.unfold(), 15);
        Check.is("bars", Check.row(x, 0), "0 1 2 2 1 2 2 1 2 2 3 0 1 2 3");
        Check.is("contents", Check.row(x, 1),
                "100 101 102 102 101 102 102 101 102 102 103 100 101 102 103");
        Check.is("jumps before", Check.row(x, 2), "0 0 0 0 0 0 0 0 0 0 0 1 1 1 1");
        Check.is("innermost", Check.row(x, 3), "0 1 1 2 2 1 2 3 1 2 0 0 3 2 0");
        Check.is("outermost", Check.row(x, 4), "0 1 1 1 2 2 2 3 3 3 0 0 3 3 0");
        Check.throwsBounds("i is -1", () -> x.played(-1, 0));
        Check.throwsBounds("i is 15", () -> x.played(15, 0));
        Check.throwsArgument("what is -1", () -> x.played(14, -1));
        Check.throwsArgument("what is 5", () -> x.played(14, 5));
    }

    /** 11 and 12: "How often a bar is PLAYED", "... COME TO, also by those that are left out." */
    private static void timesAndComes() {
        RepeatWays x = Check.scoreOf(5);
        x.repeat(0, 3, 4);
        x.ending(0, 1, 2, 1);
        Check.is("not unfolded yet", x.times(0) + " " + x.comes(0), "0 0");
        Check.is("how many", x.unfold(), 4 + 2 + 4 + 1);
        int[] times = {4, 1, 1, 4, 1};
        int[] comes = {4, 4, 1, 4, 1};
        for (int k = 0; k < 5; k++) {
            Check.is("times " + k, x.times(k), times[k]);
            Check.is("comes " + k, x.comes(k), comes[k]);
        }
        x.bar(1);
        Check.is("a new bar", x.times(5) + " " + x.comes(5), "0 0");
        x.jump(0, 1, 0, true);
        x.sign(0, 4);
        Check.is("some bars are passed by", x.unfold(), 3 + 2 + 3 + 1 + 2);
        Check.is("the new bar is played", x.times(5) + " " + x.comes(5), "1 1");
        Check.is("times of 0", x.times(0) + " " + x.comes(0), "4 4");
        Check.is("times of 3", x.times(3) + " " + x.comes(3), "3 3");
    }

    /** 13: "The CONTENTS of n that are PLAYED (1 .. 40), from the i-th on"; "there are not so many there." */
    private static void fold() {
        RepeatWays x = Check.scoreOf(40);
        Check.throwsBounds("nothing is unfolded", () -> x.fold(0, 1));
        x.unfold();
        Check.throwsArgument("n is 0", () -> x.fold(0, 0));
        Check.throwsArgument("n is 41", () -> x.fold(0, 41));
        Check.is("n is 40: all", x.fold(0, 40) + " " + x.told(6) + " " + x.told(7), "40 40 40");
        Check.throwsBounds("n is 40, from 1", () -> x.fold(1, 40));
        Check.is("n is 39, from 1", x.fold(1, 39), 39);
        Check.throwsBounds("i is -1", () -> x.fold(-1, 1));
        Check.throwsBounds("i is 40", () -> x.fold(40, 1));
        for (int i = 0; i < 40; i++) {
            Check.is("n is 1, from " + i, x.fold(i, 1) + " " + x.folded(0, 1), "1 " + (100 + i));
        }
        RepeatWays y = Check.scoreOf(39);
        y.unfold();
        Check.throwsBounds("n is 40 of 39", () -> y.fold(0, 40));
        Check.is("n is 39 of 39", y.fold(0, 39), 39);
        RepeatWays z = new RepeatWays();
        z.bar(LEAST);
        z.bar(MOST);
        z.repeat(0, 1, 4);
        z.unfold();
        Check.is("the least and the most content", z.fold(0, 8) + " " + z.folded(0, 1) + " " + z.folded(1, 1)
                + " " + z.folded(2, 1), "2 4 " + LEAST + " " + MOST);
    }

    /** 13: an i for which i + n is too large for an int is refused like any other. */
    private static void foldNeverWrapsAround() {
        RepeatWays x = Check.scoreOf(50);
        x.unfold();
        for (int k = 1; k <= 40; k++) {
            int n = k;
            Check.throwsBounds("the most i, n " + n, () -> x.fold(MOST, n));
            Check.throwsBounds("i + n wraps around to the least, n " + n, () -> x.fold(MOST - n + 1, n));
            Check.throwsBounds("i + n is the most, n " + n, () -> x.fold(MOST - n, n));
            Check.throwsBounds("the least i, n " + n, () -> x.fold(LEAST, n));
            Check.throwsBounds("i + n is 0, n " + n, () -> x.fold(-n, n));
        }
        Check.is("nothing is folded", x.told(6), 0);
    }

    /** 14: "item k: 0 a bar, 1 a block begins, 2 it ends; its CONTENT, how many times, 0." */
    private static void folded() {
        RepeatWays x = new RepeatWays();
        x.bar(-7);
        x.bar(8);
        x.repeat(1, 1, 3);
        x.repeat(0, 1, 2);
        x.unfold();
        x.fold(0, 8);
        int[] kinds = {1, 0, 1, 0, 2, 2};
        int[] values = {2, -7, 3, 8, 0, 0};
        Check.is("items", x.told(6), 6);
        for (int k = 0; k < 6; k++) {
            Check.is("kind " + k, x.folded(k, 0), kinds[k]);
            Check.is("value " + k, x.folded(k, 1), values[k]);
        }
        Check.throwsBounds("item -1", () -> x.folded(-1, 0));
        Check.throwsBounds("item 6", () -> x.folded(6, 0));
        Check.throwsArgument("what is -1", () -> x.folded(5, -1));
        Check.throwsArgument("what is 2", () -> x.folded(5, 2));
        x.fold(7, 1);
        Check.is("one item", x.told(6) + " " + x.folded(0, 0) + " " + x.folded(0, 1), "1 0 8");
        Check.throwsBounds("the former ones are gone", () -> x.folded(1, 0));
    }

    /** 15: each number on its own. */
    private static void told() {
        RepeatWays x = Check.scoreOf(5);
        Check.is("bars", allTold(x), "5 0 0 0 0 0 0 0");
        x.repeat(0, 1, 2);
        x.repeat(3, 3, 2);
        x.repeat(0, 0, 2);
        Check.is("repeats", allTold(x), "5 3 0 0 0 0 0 0");
        x.ending(0, 1, 1, 3);
        x.ending(1, 3, 3, 3);
        Check.is("endings", allTold(x), "5 3 2 0 0 0 0 0");
        x.jump(4, 0, 1, false);
        x.jump(2, 0, 0, false);
        x.jump(1, 0, 0, false);
        x.jump(3, 0, 0, true);
        Check.is("jumps", allTold(x), "5 3 2 4 0 0 0 0");
        x.sign(3, 1);
        Check.is("signs are not told of", allTold(x), "5 3 2 4 0 0 0 0");
        // Four jumps part these five.
        Check.is("played", x.unfold() + ": " + Check.row(x),
                "25: " + "0 0 1 0 0 1 " + "0 1 2 " + "0 1 2 3 " + "0 0 1 0 0 1 2 3 3 4 " + "0 1");
        Check.is("played, jumps that acted", allTold(x), "5 3 2 4 25 4 0 0");
        x.fold(0, 6);
        Check.is("items, bars in these", allTold(x), "5 3 2 4 25 4 6 2");
        Check.throwsArgument("what is -1", () -> x.told(-1));
        Check.throwsArgument("what is 8", () -> x.told(8));
    }

    /** "What was UNFOLDED, FOLDED latest stays till the next time." */
    private static void staysTillTheNextTime() {
        RepeatWays x = Check.scoreOf(3);
        x.repeat(1, 1, 2);
        x.jump(2, 0, 0, true);
        x.unfold();
        x.fold(0, 8);
        String row = Check.row(x);
        x.bar(9);
        x.repeat(0, 3, 4);
        x.ending(1, 2, 2, 1);
        x.sign(3, 0);
        x.jump(0, 0, 1, false);
        x.plain(2);
        Check.is("the row", Check.row(x), row);
        Check.is("passes", Check.row(x, 3) + ", " + Check.row(x, 4), "0 1 2 0 0 1 2 0, 0 1 2 0 0 1 2 0");
        Check.is("jumps", Check.row(x, 2) + ", " + x.told(5), "0 0 0 0 1 1 1 1, 1");
        Check.is("times and comes", x.times(1) + " " + x.comes(1) + " " + x.times(3) + " " + x.comes(3), "4 4 0 0");
        Check.is("items", x.told(6) + " " + x.told(7) + " " + x.folded(0, 1), "7 3 2");
        Check.is("a part of it can be folded", x.fold(1, 2) + " " + x.folded(0, 1), "1 2");
        Check.is("the next time", x.unfold() + ": " + Check.row(x), "15: 0 1 1 2 3 0 1 1 3 0 1 1 3 0 0");
        Check.is("folded stays", x.told(6) + " " + x.folded(0, 1), "3 2");
    }

    /** 8: "(nothing is UNFOLDED then)"; what was FOLDED stays. */
    private static void nothingUnfoldedAfterAFault() {
        RepeatWays x = Check.scoreOf(2);
        x.jump(1, 0, 0, true);
        x.unfold();
        x.fold(0, 4);
        x.jump(1, 1, 0, true);
        Check.is("the row is there till unfold", x.told(4), 4);
        Check.is("fault", x.unfold(), -2);
        Check.is("told", allTold(x), "2 0 0 1 0 0 4 2");
        Check.is("times, comes", x.times(0) + " " + x.comes(0), "0 0");
        Check.throwsBounds("played", () -> x.played(0, 0));
        Check.throwsBounds("fold", () -> x.fold(0, 1));
        Check.is("folded", x.folded(0, 0) + " " + x.folded(0, 1), "1 2");
        x.sign(0, 1);
        Check.is("unfolded again", x.unfold() + " " + Check.row(x) + " " + x.fault(), "3 0 1 1 -1");
    }

    /** "An object is used for at most 512 calls": the 512th answers as the first ones do. */
    private static void the512thCall() {
        RepeatWays x = new RepeatWays();
        for (int call = 1; call <= 60; call++) {
            x.bar(call & 1);
        }
        x.repeat(0, 39, 2);
        for (int call = 62; call <= 510; call += 2) {
            Check.is("unfold, call " + call, x.unfold(), 100);
            Check.is("fold, call " + (call + 1), x.fold(call % 61, 40), 2);
        }
        Check.is("call 512", x.told(7), 2);
    }
}
