/** Promises 8 to 12: unfold, fault, played, times and comes. */
public final class UnfoldTest {
    public static void main(String[] args) {
        repeats();
        endings();
        endingsThatHoldRepeats();
        endingsThatLieInRepeats();
        jumps();
        jumpsAndRepeats();
        fine();
        coda();
        firstOfThese();
        faultsOfJumps();
        tooLong();
        whatStays();
        wrongInputs();
        Check.end();
    }

    private static void plays(String what, RepeatWays x, String want) {
        int count = x.unfold();
        Check.is(what, Check.row(x), want);
        Check.is(what + ": how many", count, want.split(" ").length);
        Check.is(what + ": no fault", x.fault(), -1);
    }

    private static void repeats() {
        RepeatWays none = new RepeatWays();
        Check.is("no bars", none.unfold(), 0);
        Check.is("no bars, no fault", none.fault(), -1);
        RepeatWays x = Check.scoreOf(4);
        plays("plain", x, "0 1 2 3");
        Check.is("plain: passes", Check.row(x, 3) + "," + Check.row(x, 4), "0 0 0 0,0 0 0 0");
        x.repeat(2, 2, 4);
        plays("one bar", x, "0 1 2 2 2 2 3");
        Check.is("one bar: contents", Check.row(x, 1), "100 101 102 102 102 102 103");
        RepeatWays y = Check.scoreOf(4);
        y.repeat(2, 2, 2);
        y.repeat(0, 2, 2);
        y.repeat(1, 2, 3);
        plays("three", y, "0 1 2 2 1 2 2 1 2 2 0 1 2 2 1 2 2 1 2 2 3");
        Check.is("three: innermost", Check.row(y, 3), "1 1 1 2 2 1 2 3 1 2 2 1 1 2 2 1 2 3 1 2 0");
        Check.is("three: outermost", Check.row(y, 4), "1 1 1 1 1 1 1 1 1 1 2 2 2 2 2 2 2 2 2 2 0");
        Check.is("three: times", y.times(2), 12);
        Check.is("three: comes", y.comes(1), 6);
    }

    private static void endings() {
        RepeatWays x = Check.scoreOf(5);
        x.repeat(0, 3, 3);
        x.ending(0, 1, 1, 3);
        x.ending(0, 2, 3, 4);
        plays("passes 1 and 2, then 3", x, "0 1 0 1 0 2 3 4");
        Check.is("comes to 0", x.comes(0), 3);
        Check.is("comes to 1", x.comes(1), 3);
        Check.is("times of 1", x.times(1), 2);
        Check.is("comes to 2", x.comes(2), 3);
        Check.is("times of 2", x.times(2), 1);
        Check.is("comes to 3", x.comes(3), 1);
        RepeatWays y = Check.scoreOf(1);
        y.repeat(0, 0, 4);
        y.ending(0, 0, 0, 10);
        plays("all of a repeat", y, "0 0");
        Check.is("all of a repeat: passes", Check.row(y, 3), "2 4");
        Check.is("all of a repeat: comes", y.comes(0), 4);
        RepeatWays z = Check.scoreOf(1);
        z.repeat(0, 0, 2);
        z.ending(0, 0, 0, 1);
        plays("left out at the end", z, "0");
        Check.is("left out at the end: comes", z.comes(0), 2);
    }

    private static void endingsThatHoldRepeats() {
        RepeatWays x = Check.scoreOf(4);
        x.repeat(0, 3, 2);
        x.repeat(1, 2, 2);
        x.ending(0, 1, 2, 1);
        plays("a repeat with the ending's bars", x, "0 1 2 1 2 3 0 3");
        Check.is("it is left, too", x.comes(1), 3);
        RepeatWays y = Check.scoreOf(5);
        y.repeat(0, 4, 2);
        y.repeat(1, 1, 2);
        y.repeat(3, 3, 3);
        y.ending(0, 1, 3, 2);
        plays("two repeats within", y, "0 4 0 1 1 2 3 3 3 4");
        RepeatWays z = Check.scoreOf(4);
        z.repeat(0, 3, 2);
        z.repeat(1, 2, 2);
        z.ending(1, 1, 2, 2);
        plays("its own repeat is not left", z, "0 1 2 3 0 1 2 3");
        Check.is("its own repeat is not left: comes", z.comes(1), 4);
        RepeatWays w = Check.scoreOf(3);
        w.repeat(0, 2, 3);
        w.repeat(1, 2, 2);
        w.repeat(2, 2, 2);
        w.ending(0, 1, 2, 5);
        plays("two within, one at its last bar", w, "0 1 2 2 1 2 2 0 0 1 2 2 1 2 2");
    }

    private static void endingsThatLieInRepeats() {
        RepeatWays x = Check.scoreOf(4);
        x.repeat(0, 3, 2);
        x.repeat(1, 2, 2);
        x.ending(0, 2, 2, 2);
        plays("the outer one's ending ends the inner one", x, "0 1 1 3 0 1 2 1 2 3");
        Check.is("inner passes", Check.row(x, 3), "1 1 2 1 2 1 1 2 2 2");
        RepeatWays y = Check.scoreOf(4);
        y.repeat(0, 3, 2);
        y.repeat(1, 2, 2);
        y.ending(0, 1, 1, 1);
        plays("the outer one's ending begins the inner one", y, "0 1 2 1 2 3 0 2 2 3");
        Check.is("the inner one was open", Check.row(y, 3), "1 1 1 2 2 1 2 1 2 2");
    }

    private static void jumps() {
        RepeatWays x = Check.scoreOf(4);
        x.jump(2, 0, 0, true);
        plays("to the first bar", x, "0 1 2 0 1 2 3");
        Check.is("jumps before", Check.row(x, 2), "0 0 0 1 1 1 1");
        Check.is("jumps that acted", x.told(5), 1);
        x.sign(0, 2);
        x.jump(2, 1, 0, true);
        plays("to SEGNO", x, "0 1 2 2 3");
        x.jump(3, 0, 0, true);
        plays("two jumps", x, "0 1 2 2 3 0 1 2 3");
        Check.is("two jumps: before", Check.row(x, 2), "0 0 0 1 1 2 2 2 2");
        x.sign(0, 3);
        plays("SEGNO ahead", x, "0 1 2 3 0 1 2 3");
        plays("each acts once in each unfold", x, "0 1 2 3 0 1 2 3");
        x.jump(0, 1, 0, true);
        x.plain(2);
        plays("a bar that is not come to", x, "0 3 0 1 2 3");
        Check.is("comes to 1", x.comes(1), 1);
    }

    private static void jumpsAndRepeats() {
        RepeatWays x = Check.scoreOf(3);
        x.repeat(0, 1, 3);
        x.ending(0, 1, 1, 3);
        x.jump(2, 0, 0, false);
        plays("without repeats", x, "0 1 0 1 0 2 0 2");
        Check.is("without repeats: passes", Check.row(x, 3), "1 1 2 2 3 0 3 0");
        x.jump(2, 0, 0, true);
        plays("with repeats", x, "0 1 0 1 0 2 0 1 0 1 0 2");
        RepeatWays y = Check.scoreOf(3);
        y.repeat(0, 1, 2);
        y.jump(0, 0, 0, true);
        plays("only in the last pass", y, "0 1 0 0 1 0 1 2");
        Check.is("all repeats are left", Check.row(y, 3), "1 1 2 1 1 2 2 0");
        y.repeat(0, 2, 2);
        plays("in the last pass of all", y, "0 1 0 1 2 0 1 0 0 1 0 1 2 0 1 0 1 2");
        RepeatWays z = Check.scoreOf(4);
        z.repeat(0, 2, 2);
        z.sign(0, 1);
        z.jump(3, 1, 0, true);
        plays("into a repeat", z, "0 1 2 0 1 2 3 1 2 0 1 2 3");
        z.jump(3, 1, 0, false);
        plays("into a repeat without repeats", z, "0 1 2 0 1 2 3 1 2 3");
        z.jump(1, 0, 0, true);
        plays("the latest jump tells", z, "0 1 2 0 1 0 1 2 0 1 2 3 1 2 3");
        z.ending(0, 0, 1, 1);
        plays("into an ending", z, "0 1 2 2 3 1 0 1 2 2 3");
        Check.is("into an ending: passes", Check.row(z, 3), "1 1 1 2 0 2 1 1 1 2 0");
    }

    private static void fine() {
        RepeatWays x = Check.scoreOf(4);
        x.sign(3, 1);
        plays("FINE without a jump", x, "0 1 2 3");
        x.jump(3, 0, 1, true);
        plays("till FINE", x, "0 1 2 3 0 1");
        x.repeat(0, 1, 2);
        plays("FINE in the last pass", x, "0 1 0 1 2 3 0 1 0 1");
        x.sign(3, 0);
        plays("FINE within the repeat", x, "0 1 0 1 2 3 0 1 0");
        x.jump(3, 0, 1, false);
        plays("till FINE without repeats", x, "0 1 0 1 2 3 0");
        x.jump(3, 0, 0, true);
        plays("not till FINE", x, "0 1 0 1 2 3 0 1 0 1 2 3");
        RepeatWays y = Check.scoreOf(4);
        y.sign(3, 0);
        y.jump(1, 0, 0, true);
        y.jump(3, 0, 1, true);
        plays("the latest jump was not till FINE", y, "0 1 0 1 2 3 0");
        RepeatWays z = Check.scoreOf(4);
        z.sign(3, 2);
        z.jump(1, 0, 1, true);
        z.jump(3, 0, 0, true);
        plays("the end comes at FINE", z, "0 1 0 1 2");
        Check.is("the second jump did not act", z.told(5), 1);
    }

    private static void coda() {
        RepeatWays x = Check.scoreOf(6);
        x.sign(1, 4);
        x.sign(2, 1);
        plays("CODA without a jump", x, "0 1 2 3 4 5");
        x.jump(3, 0, 2, true);
        plays("to CODA", x, "0 1 2 3 0 1 4 5");
        Check.is("going to CODA is no jump", Check.row(x, 2), "0 0 0 0 1 1 1 1");
        x.jump(3, 0, 0, true);
        plays("not by TO CODA", x, "0 1 2 3 0 1 2 3 4 5");
        x.jump(3, 0, 2, false);
        x.repeat(4, 5, 2);
        x.repeat(0, 1, 2);
        plays("behind CODA no repeats, too", x, "0 1 0 1 2 3 0 1 4 5");
        x.jump(3, 0, 2, true);
        plays("to CODA in the last pass", x, "0 1 0 1 2 3 0 1 0 1 4 5 4 5");
        RepeatWays y = Check.scoreOf(3);
        y.sign(1, 0);
        y.sign(2, 1);
        y.jump(2, 0, 2, true);
        plays("to CODA once", y, "0 1 2 0 1 0 1 2");
        RepeatWays z = Check.scoreOf(4);
        z.sign(1, 2);
        z.sign(2, 0);
        z.jump(2, 0, 2, true);
        z.jump(3, 0, 2, true);
        plays("to CODA once for each jump", z, "0 1 2 0 2 3 0 2 3");
        Check.is("both acted", z.told(5), 2);
        RepeatWays w = Check.scoreOf(4);
        w.repeat(0, 2, 2);
        w.sign(2, 1);
        w.sign(1, 0);
        w.jump(3, 0, 2, false);
        plays("all repeats are left", w, "0 1 2 0 1 2 3 0 1 0 1 2 3");
        Check.is("all repeats are left: passes", Check.row(w, 3), "1 1 1 2 2 2 0 2 2 2 2 2 0");
        w.jump(3, 0, 2, true);
        plays("all repeats are left, and open anew", w, "0 1 2 0 1 2 3 0 1 2 0 1 0 1 2 0 1 2 3");
    }

    private static void firstOfThese() {
        RepeatWays x = Check.scoreOf(5);
        x.sign(0, 3);
        x.sign(3, 4);
        x.jump(0, 1, 1, true);
        x.jump(4, 0, 0, true);
        plays("FINE, then the jump", x, "0 3 4");
        RepeatWays y = Check.scoreOf(5);
        y.sign(0, 2);
        y.sign(1, 4);
        y.sign(2, 2);
        y.jump(0, 1, 2, true);
        y.jump(2, 0, 0, true);
        plays("TO CODA, then the jump", y, "0 2 4");
        Check.is("one acted", y.told(5), 1);
        y.sign(1, 1);
        plays("TO CODA, later the jump", y, "0 2 1 2 0 1 2 3 4");
    }

    private static void fails(String what, RepeatWays x, int answer, int bar) {
        Check.is(what, x.unfold(), answer);
        Check.is(what + ": its bar", x.fault(), bar);
        Check.is(what + ": nothing is unfolded", x.told(4) + " " + x.told(5), "0 0");
        Check.is(what + ": times, comes", x.times(0) + " " + x.comes(0), "0 0");
        Check.throwsBounds(what + ": played", () -> x.played(0, 0));
        Check.throwsBounds(what + ": fold", () -> x.fold(0, 1));
    }

    private static void faultsOfJumps() {
        RepeatWays x = Check.scoreOf(5);
        x.unfold();
        x.jump(3, 1, 1, true);
        fails("SEGNO, FINE are not there", x, -2, 3);
        x.jump(2, 0, 2, true);
        fails("the left bar first", x, -4, 2);
        x.sign(1, 0);
        fails("TO CODA is not there", x, -4, 2);
        x.sign(1, -1);
        x.sign(2, 0);
        fails("CODA is not there", x, -4, 2);
        x.sign(1, 0);
        fails("then the next bar", x, -2, 3);
        x.sign(0, 0);
        fails("FINE is not there", x, -3, 3);
        x.sign(3, 4);
        plays("all are there", x, "0 1 2 0 0 1 2 3 0 1 2 3 4");
        x.sign(0, -1);
        x.jump(4, 1, 2, false);
        x.plain(3);
        fails("a jump that goes has no fault", x, -2, 4);
        x.sign(0, 4);
        x.sign(2, -1);
        fails("SEGNO is there, TO CODA is not", x, -4, 2);
    }

    /** 15 bars 64 times, one 16 times, one 4 times: 980. */
    private static RepeatWays longScore(int plain) {
        RepeatWays x = Check.scoreOf(17 + plain);
        x.repeat(0, 14, 4);
        x.repeat(0, 15, 4);
        x.repeat(0, 16, 4);
        return x;
    }

    private static void tooLong() {
        RepeatWays x = longScore(20);
        Check.is("1000", x.unfold(), 1000);
        Check.is("the last of 1000", x.played(999, 0), 36);
        Check.is("times of 3", x.times(3), 64);
        x.bar(5);
        fails("1001", x, -5, 37);
        x.jump(37, 1, 0, true);
        fails("the jump's fault first", x, -2, 37);
        RepeatWays y = longScore(0);
        y.jump(16, 0, 0, true);
        fails("1001 within the repeats", y, -5, 5);
        y.jump(16, 0, 0, false);
        Check.is("997 without repeats", y.unfold(), 997);
        RepeatWays z = longScore(20);
        z.repeat(36, 36, 2);
        z.ending(3, 36, 36, 1);
        Check.is("what is left out is not played", z.unfold(), 1000);
        Check.is("but come to", z.comes(36), 2);
    }

    private static void whatStays() {
        RepeatWays x = Check.scoreOf(3);
        x.repeat(0, 1, 2);
        x.unfold();
        x.bar(7);
        x.repeat(0, 3, 2);
        x.ending(1, 1, 1, 1);
        x.jump(3, 0, 0, true);
        Check.is("row stays", Check.row(x), "0 1 0 1 2");
        Check.is("outermost stays", Check.row(x, 4), "1 1 2 2 0");
        Check.is("times of a later bar", x.times(3), 0);
        Check.is("comes of a later bar", x.comes(3), 0);
        Check.is("comes stays", x.comes(1), 2);
        Check.is("jumps stay", x.told(5), 0);
        plays("then anew", x, "0 1 0 1 2 3 0 0 2 3 0 1 0 1 2 3 0 0 2 3");
        x.sign(0, -1);
        Check.throwsArgument("a throw", () -> x.jump(0, 2, 0, true));
        Check.is("a throw changes nothing", x.told(4), 20);
    }

    private static void wrongInputs() {
        RepeatWays x = Check.scoreOf(2);
        x.unfold();
        int least = Integer.MIN_VALUE;
        int most = Integer.MAX_VALUE;
        for (int i : new int[] {least, -1, 2, most}) {
            Check.throwsBounds("played " + i, () -> x.played(i, 0));
            Check.throwsBounds("played, what is wrong too " + i, () -> x.played(i, 9));
            Check.throwsBounds("times " + i, () -> x.times(i));
            Check.throwsBounds("comes " + i, () -> x.comes(i));
        }
        for (int what : new int[] {least, -1, 5, most}) {
            Check.throwsArgument("played what " + what, () -> x.played(1, what));
        }
    }
}
