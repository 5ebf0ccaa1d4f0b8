/** Sentences of 'Terms' under TO UNFOLD, each at its edge; the rows are worked out by hand. */
public final class PlayingTest {
    private static final int SEGNO = 0;
    private static final int CODA = 1;
    private static final int TO_CODA = 2;
    private static final int FINE = 3;

    public static void main(String[] args) {
        faultsOfEachJumpWithEachSigns();
        faultsFromTheLeft();
        faultsFirst();
        fromBarZeroOn();
        openInPassOne();
        openInTheLastPass();
        anEndingThatBegins();
        repeatsWithinAnEndingAreLeft();
        theEndOfItsLastBar();
        allRepeatsInTheirLastPass();
        thatIsAllAtFine();
        toCoda();
        hasNotBeenAtCoda();
        aJumpThatDidNotActYet();
        theFirstOfThese();
        theEndOfABar();
        faultAtThe1001st();
        Check.end();
    }

    private static void plays(String what, RepeatWays x, String want) {
        int answer = x.unfold();
        Check.is(what, Check.row(x), want);
        Check.is(what + ": how many", answer, want.split(" ").length);
        Check.is(what + ": no fault", x.fault(), RepeatWays.NONE);
    }

    private static void fails(String what, RepeatWays x, int fault, int bar) {
        Check.is(what, x.unfold(), -1 - fault);
        Check.is(what + ": its bar", x.fault(), bar);
        Check.is(what + ": bars played, jumps that acted", x.told(4) + " " + x.told(5), "0 0");
        for (int k = 0; k < x.told(0); k++) {
            Check.is(what + ": times, comes", x.times(k) + " " + x.comes(k), "0 0");
        }
    }

    /** "1 it goes to SEGNO, and there is none; 2 till FINE, and there is none; 3 TO CODA, and it or CODA ..." */
    private static void faultsOfEachJumpWithEachSigns() {
        for (int signs = 0; signs < 16; signs++) {
            for (int to = 0; to < 2; to++) {
                for (int till = 0; till < 3; till++) {
                    RepeatWays x = Check.scoreOf(3);
                    for (int sign = 0; sign < 4; sign++) {
                        x.sign(sign, (signs >> sign & 1) == 1 ? 0 : RepeatWays.NONE);
                    }
                    x.jump(1, to, till, true);
                    boolean segno = (signs & 1 << SEGNO) != 0;
                    boolean fine = (signs & 1 << FINE) != 0;
                    boolean coda = (signs & 1 << CODA) != 0 && (signs & 1 << TO_CODA) != 0;
                    int fault = to == 1 && !segno ? 1 : till == 1 && !fine ? 2 : till == 2 && !coda ? 3 : 0;
                    String what = "signs " + signs + ", to " + to + ", till " + till;
                    if (fault > 0) {
                        fails(what, x, fault, 1);
                    } else {
                        plays(what, x, till == 0 ? "0 1 0 1 2" : till == 1 ? "0 1 0" : "0 1 0 0 1 2");
                    }
                }
            }
        }
    }

    /** "FAULTS first, by bars with a JUMP, from the left." */
    private static void faultsFromTheLeft() {
        RepeatWays x = Check.scoreOf(4);
        x.jump(3, 1, 0, true);
        fails("the last bar", x, 1, 3);
        x.jump(2, 0, 1, true);
        fails("2 ahead of 1", x, 2, 2);
        x.jump(0, 0, 2, true);
        fails("the first bar, 3 ahead of 2 and 1", x, 3, 0);
        x.jump(1, 0, 0, true);
        fails("a jump without a fault", x, 3, 0);
        x.jump(0, 0, 0, true);
        fails("the first good ones are gone by", x, 2, 2);
        x.sign(FINE, 0);
        fails("the third too", x, 1, 3);
        x.jump(3, 1, 1, true);
        x.sign(FINE, RepeatWays.NONE);
        x.plain(2);
        fails("of one bar's 1 before 2", x, 1, 3);
        x.jump(3, 1, 2, true);
        fails("of one bar's 1 before 3", x, 1, 3);
        x.sign(SEGNO, 3);
        fails("then 3", x, 3, 3);
        x.plain(3);
        plays("no faulty jump is there", x, "0 0 1 0 1 2 3");
    }

    /** "FAULTS first ... Then the score is played": also those of a JUMP that would never act. */
    private static void faultsFirst() {
        RepeatWays x = Check.scoreOf(3);
        x.repeat(1, 1, 2);
        x.ending(0, 1, 1, 1);
        x.jump(1, 1, 0, true);
        fails("a jump behind a bar that is left out in the last pass", x, 1, 1);
        x.sign(SEGNO, 0);
        plays("it does not act", x, "0 1 2");
        Check.is("it does not act: jumps", x.told(5), 0);
        RepeatWays y = Check.scoreOf(2);
        plays("signs that no jump asks for", y, "0 1");
        RepeatWays z = thousand();
        z.bar(1);
        // Behind the bar of fault 4, which would come first if the score were played.
        z.jump(37, 1, 0, true);
        fails("before 4", z, 1, 37);
        z.jump(5, 1, 0, true);
        fails("before 4, from the left", z, 1, 5);
    }

    /** "Then the score is played, from bar 0 on": no bars, one bar. */
    private static void fromBarZeroOn() {
        RepeatWays x = new RepeatWays();
        Check.is("no bars", x.unfold() + " " + x.fault() + " " + x.told(4), "0 -1 0");
        Check.throwsBounds("no bars: played", () -> x.played(0, 0));
        x.bar(9);
        Check.is("still nothing", x.told(4), 0);
        plays("one bar", x, "0");
        x.jump(0, 0, 0, true);
        plays("one bar with a jump", x, "0 0");
        x.repeat(0, 0, 4);
        plays("one bar with a jump and a repeat", x, "0 0 0 0 0 0 0 0");
        x.sign(FINE, 0);
        x.jump(0, 0, 1, false);
        plays("one bar, till FINE without repeats", x, "0 0 0 0 0");
    }

    /** "Each REPEAT AROUND it that is not OPEN is OPEN then, the outer ones first, in pass 1." */
    private static void openInPassOne() {
        RepeatWays x = Check.scoreOf(6);
        x.repeat(2, 2, 2);
        x.repeat(0, 4, 2);
        x.repeat(1, 3, 2);
        x.sign(SEGNO, 2);
        x.jump(5, 1, 0, true);
        String once = "0 1 2 2 3 1 2 2 3 4";
        plays("into three at once", x, once + " " + once + " 5 2 2 3 1 2 2 3 4 " + once + " 5");
        Check.is("the innermost one's pass", x.played(21, 3) + " " + x.played(22, 3) + " " + x.played(23, 3),
                "1 2 1");
        Check.is("the outermost one's pass", x.played(21, 4) + " " + x.played(28, 4) + " " + x.played(29, 4),
                "1 1 2");
        Check.is("a repeat's first and last bars are within", x.played(0, 3) + " " + x.played(9, 3), "1 1");
        Check.is("the bar behind is not", x.played(20, 3) + " " + x.played(20, 4), "0 0");
    }

    /** "(in the last pass, if the latest JUMP is one without REPEATS)." */
    private static void openInTheLastPass() {
        RepeatWays x = Check.scoreOf(6);
        x.repeat(0, 4, 2);
        x.repeat(1, 3, 3);
        x.repeat(2, 2, 4);
        x.ending(2, 2, 2, 1);
        x.sign(SEGNO, 1);
        x.jump(5, 1, 0, false);
        x.unfold();
        Check.is("the last bars", x.told(4) + " " + x.told(5), 2 * (2 + 3 * 3) + 1 + 4 + " 1");
        int first = x.told(4) - 4;
        String bars = "";
        String inner = "";
        String outer = "";
        for (int i = first; i < first + 4; i++) {
            bars += x.played(i, 0);
            inner += x.played(i, 3);
            outer += x.played(i, 4);
        }
        Check.is("the last pass of each, the ending's is pass 4", bars + " " + inner + " " + outer, "1345 3320 2220");
        RepeatWays y = Check.scoreOf(3);
        y.repeat(0, 0, 3);
        y.jump(1, 0, 0, false);
        y.jump(2, 0, 0, true);
        plays("the latest jump tells: without, then with", y, "0 0 0 1 0 1 2 0 0 0 1 2");
        y.jump(1, 0, 0, true);
        y.jump(2, 0, 0, false);
        plays("the latest jump tells: with, then without", y, "0 0 0 1 0 0 0 1 2 0 1 2");
    }

    /** "An ENDING that begins there and hasn't the pass of its REPEAT is left out." */
    private static void anEndingThatBegins() {
        RepeatWays x = Check.scoreOf(4);
        x.repeat(0, 2, 2);
        x.ending(0, 1, 2, 2);
        x.sign(SEGNO, 2);
        x.jump(3, 1, 0, true);
        plays("into its middle", x, "0 0 1 2 3 2 0 1 2 3");
        Check.is("into its middle: the pass", x.played(5, 3), 1);
        x.sign(SEGNO, 1);
        plays("to its first bar", x, "0 0 1 2 3 0 1 2 3");
        Check.is("comes to its first, to its second", x.comes(1) + " " + x.comes(2), "4 2");
        RepeatWays y = Check.scoreOf(2);
        y.repeat(0, 1, 4);
        y.ending(0, 0, 0, 6);
        plays("passes 2 and 3 of 4", y, "1 0 1 0 1 1");
        RepeatWays z = Check.scoreOf(3);
        z.repeat(0, 2, 2);
        z.repeat(1, 1, 3);
        z.ending(0, 1, 1, 2);
        plays("the pass of its repeat, not of the innermost", z, "0 2 0 1 1 1 2");
    }

    /** "REPEATS within it, but its own, are left (not OPEN)." */
    private static void repeatsWithinAnEndingAreLeft() {
        RepeatWays x = Check.scoreOf(4);
        x.repeat(0, 3, 2);
        x.repeat(1, 2, 3);
        x.repeat(1, 1, 2);
        x.ending(0, 1, 2, 2);
        plays("those that open at its first bar", x, "0 3 0 1 1 2 1 1 2 1 1 2 3");
        Check.is("come to once in pass 1", x.comes(1), 1 + 6);
        RepeatWays w = Check.scoreOf(3);
        w.repeat(1, 1, 3);
        w.repeat(0, 2, 2);
        w.ending(1, 1, 1, 1);
        plays("one that was there before its own", w, "0 1 1 1 2 0 2");
        Check.is("one that was there before its own: comes", w.comes(1), 4);
        RepeatWays y = Check.scoreOf(3);
        y.repeat(1, 2, 4);
        y.ending(0, 1, 2, 8);
        y.repeat(2, 2, 2);
        plays("its own of the same bars goes on", y, "0 1 2 2");
        Check.is("its own of the same bars: comes", y.comes(1) + " " + y.comes(2), "4 2");
        RepeatWays z = Check.scoreOf(4);
        z.repeat(0, 3, 2);
        z.repeat(1, 2, 2);
        z.ending(0, 2, 2, 2);
        plays("one around it goes on", z, "0 1 1 3 0 1 2 1 2 3");
    }

    /** "... and what comes is THE END of its last bar." */
    private static void theEndOfItsLastBar() {
        RepeatWays x = Check.scoreOf(2);
        x.repeat(0, 1, 2);
        x.ending(0, 1, 1, 1);
        plays("the last bar of all", x, "0 1 0");
        x.jump(1, 0, 0, true);
        plays("no jump behind what is left out", x, "0 1 0");
        x.jump(0, 0, 1, true);
        x.sign(FINE, 1);
        plays("no FINE behind what is left out", x, "0 1 0 0 1 0");
        RepeatWays y = Check.scoreOf(4);
        y.repeat(0, 2, 2);
        y.ending(0, 0, 1, 1);
        plays("its last bar is not the repeat's", y, "0 1 2 2 3");
        RepeatWays z = Check.scoreOf(1);
        z.repeat(0, 0, 2);
        z.ending(0, 0, 0, 2);
        plays("all of a repeat", z, "0");
        Check.is("all of a repeat: comes", z.comes(0), 2);
    }

    /** "Behind a bar that is PLAYED, if all REPEATS AROUND it are in their last pass." */
    private static void allRepeatsInTheirLastPass() {
        RepeatWays x = Check.scoreOf(3);
        x.repeat(0, 2, 2);
        x.repeat(1, 1, 2);
        x.jump(1, 0, 0, false);
        plays("JUMP within two", x, "0 1 1 2 0 1 1 0 1 2");
        x.jump(1, 0, 1, true);
        x.sign(FINE, 1);
        plays("FINE within two", x, "0 1 1 2 0 1 1 0 1 1 2 0 1 1");
        x.jump(1, 0, 2, true);
        x.sign(TO_CODA, 1);
        x.sign(CODA, 2);
        plays("TO CODA within two", x, "0 1 1 2 0 1 1 0 1 1 2 0 1 1 2 0 1 1 2");
        RepeatWays y = Check.scoreOf(3);
        y.repeat(0, 1, 2);
        y.jump(2, 0, 0, true);
        plays("none around it", y, "0 1 0 1 2 0 1 0 1 2");
    }

    /** "FINE is there, and the latest JUMP was till FINE: that is all." */
    private static void thatIsAllAtFine() {
        RepeatWays x = Check.scoreOf(3);
        x.jump(2, 0, 1, true);
        x.sign(FINE, 0);
        plays("behind the first bar", x, "0 1 2 0");
        x.sign(FINE, 2);
        plays("behind the last bar", x, "0 1 2 0 1 2");
        x.sign(SEGNO, 2);
        x.jump(2, 1, 1, true);
        plays("behind SEGNO's own bar", x, "0 1 2 2");
        x.sign(FINE, 1);
        plays("FINE is not come to", x, "0 1 2 2");
        x.jump(0, 0, 0, true);
        plays("an earlier jump was not till FINE", x, "0 0 1 2 2");
        x.jump(0, 0, 2, true);
        x.sign(TO_CODA, 2);
        x.sign(CODA, 1);
        plays("nor one by TO CODA", x, "0 0 1 2 1 2 2");
    }

    /** "All REPEATS are left (not OPEN), CODA's bar is COME TO." */
    private static void toCoda() {
        RepeatWays x = Check.scoreOf(3);
        x.jump(2, 0, 2, true);
        x.sign(TO_CODA, 2);
        x.sign(CODA, 0);
        plays("from the last bar to the first", x, "0 1 2 0 1 2 0 1 2");
        Check.is("jumps that acted", x.told(5) + " " + x.played(8, 2), "1 1");
        x.sign(CODA, 2);
        plays("to the very bar", x, "0 1 2 0 1 2 2");
        x.sign(TO_CODA, 0);
        plays("ahead", x, "0 1 2 0 2");
        x.sign(SEGNO, 1);
        x.jump(2, 1, 2, true);
        plays("TO CODA is not come to", x, "0 1 2 1 2");
        RepeatWays y = Check.scoreOf(4);
        y.repeat(0, 2, 3);
        y.sign(TO_CODA, 1);
        y.sign(CODA, 2);
        y.jump(3, 0, 2, true);
        plays("within the repeat, which opens anew", y, "0 1 2 0 1 2 0 1 2 3 0 1 2 0 1 2 0 1 2 0 1 2 0 1 2 3");
        Check.is("which opens anew: passes", y.played(17, 3) + " " + y.played(18, 3), "3 1");
        y.ending(0, 2, 2, 3);
        plays("CODA ahead of an ending", y, "0 1 2 0 1 2 0 1 3 0 1 2 0 1 2 0 1 2 0 1 2 0 1 3");
        y.jump(3, 0, 2, false);
        plays("CODA ahead of one that is left out", y, "0 1 2 0 1 2 0 1 3 0 1 3");
        Check.is("comes to it", y.comes(2), 4);
    }

    /** "... the latest JUMP was by it, and has not been at CODA." */
    private static void hasNotBeenAtCoda() {
        RepeatWays x = Check.scoreOf(4);
        x.sign(CODA, 0);
        x.sign(TO_CODA, 1);
        x.jump(2, 0, 2, true);
        plays("once by one jump", x, "0 1 2 0 1 0 1 2 3");
        x.jump(3, 0, 2, true);
        plays("once more by the next", x, "0 1 2 0 1 0 1 2 3 0 1 0 1 2 3");
        x.jump(3, 0, 0, true);
        plays("the next is not by it", x, "0 1 2 0 1 0 1 2 3 0 1 2 3");
        RepeatWays y = Check.scoreOf(4);
        y.sign(CODA, 1);
        y.sign(TO_CODA, 2);
        y.jump(3, 0, 2, true);
        plays("passing CODA's bar is not going there", y, "0 1 2 3 0 1 2 1 2 3");
    }

    /** "A JUMP is there that did not act yet: it acts: all REPEATS are left, its bar is COME TO." */
    private static void aJumpThatDidNotActYet() {
        RepeatWays x = Check.scoreOf(3);
        for (int bar = 0; bar < 3; bar++) {
            x.jump(bar, 0, 0, true);
        }
        plays("each once", x, "0 0 1 0 1 2 0 1 2");
        Check.is("each once: before", Check.row(x, 2), "0 1 1 2 2 2 3 3 3");
        plays("each once the next time, too", x, "0 0 1 0 1 2 0 1 2");
        RepeatWays y = Check.scoreOf(3);
        y.repeat(0, 1, 2);
        y.jump(0, 0, 0, true);
        plays("not in pass 1, and then still", y, "0 1 0 0 1 0 1 2");
        Check.is("it acted once", y.told(5), 1);
        y.jump(0, 1, 0, true);
        y.sign(SEGNO, 2);
        plays("out of the repeat", y, "0 1 0 2");
        Check.is("comes to 1", y.comes(1), 1);
    }

    /** "... the first of these that is so": FINE, TO CODA, a JUMP, all behind one bar. */
    private static void theFirstOfThese() {
        RepeatWays x = Check.scoreOf(4);
        x.sign(FINE, 1);
        x.sign(TO_CODA, 1);
        x.sign(CODA, 3);
        x.jump(1, 0, 1, true);
        plays("the jump, then FINE", x, "0 1 0 1");
        x.jump(1, 0, 2, true);
        plays("the jump, then TO CODA", x, "0 1 0 1 3");
        x.jump(1, 0, 0, true);
        plays("the jump, then none", x, "0 1 0 1 2 3");
        x.jump(0, 0, 1, true);
        plays("FINE before the jump", x, "0 0 1");
        x.jump(0, 0, 2, true);
        plays("TO CODA before the jump", x, "0 0 1 3");
        Check.is("the jump did not act", x.told(5), 1);
        x.sign(CODA, 1);
        plays("TO CODA, then the jump", x, "0 0 1 1 0 1 2 3");
        Check.is("the jump acted, too", x.told(5), 2);
    }

    /** "THE END of a bar: ... from the innermost on ... Then the bar behind it is COME TO, or that is all." */
    private static void theEndOfABar() {
        RepeatWays x = Check.scoreOf(3);
        x.repeat(0, 2, 2);
        x.repeat(2, 2, 3);
        x.repeat(1, 2, 2);
        plays("three end at the last bar", x, "0 1 2 2 2 1 2 2 2 0 1 2 2 2 1 2 2 2");
        Check.is("passes of the innermost", Check.row(x, 3), "1 1 1 2 3 2 1 2 3 2 1 1 2 3 2 1 2 3");
        RepeatWays y = Check.scoreOf(3);
        y.repeat(0, 2, 2);
        y.repeat(0, 0, 2);
        y.repeat(0, 1, 2);
        plays("three begin at the first bar", y, "0 0 1 0 0 1 2 0 0 1 0 0 1 2");
        RepeatWays z = Check.scoreOf(3);
        z.repeat(0, 1, 2);
        z.repeat(2, 2, 2);
        plays("two side by side", z, "0 1 0 1 2 2");
    }

    /** 15 bars 64 times, one 16 times, one 4 times, 20 once: 1000. */
    private static RepeatWays thousand() {
        RepeatWays x = Check.scoreOf(37);
        x.repeat(0, 14, 4);
        x.repeat(0, 15, 4);
        x.repeat(0, 16, 4);
        return x;
    }

    /** "FAULT 4: more than 1000 bars would be PLAYED (at the 1001st)." */
    private static void faultAtThe1001st() {
        RepeatWays x = thousand();
        Check.is("1000 are played", x.unfold(), 1000);
        Check.is("1000 are told", x.told(4), 1000);
        Check.is("no fault yet", x.fault(), RepeatWays.NONE);
        Check.is("the 1000th", x.played(999, 0) + " " + x.played(999, 1), "36 136");
        Check.throwsBounds("there is no 1001st", () -> x.played(1000, 0));
        x.jump(36, 0, 0, false);
        fails("a jump's bar would be the 1001st", x, 4, 0);
        x.sign(SEGNO, 30);
        x.jump(36, 1, 0, false);
        fails("SEGNO's bar would be the 1001st", x, 4, 30);
        x.plain(36);
        Check.is("1000 again", x.unfold() + " " + x.fault(), "1000 -1");
        RepeatWays y = thousand();
        y.bar(1);
        fails("the bar behind would be the 1001st", y, 4, 37);
        y.repeat(37, 37, 2);
        y.ending(3, 37, 37, 2);
        fails("it is left out in pass 1, not in pass 2", y, 4, 37);
        RepeatWays z = thousand();
        z.repeat(36, 36, 2);
        fails("the second pass would be the 1001st", z, 4, 36);
        z.ending(3, 36, 36, 2);
        Check.is("what is left out does not count", z.unfold() + " " + z.comes(36), "1000 2");
    }
}
