/** Sentences of 'Terms' that tell what a score may be: every small case of how things lie. */
public final class LyingTest {
    private static final int BARS = 6;
    private static final String TAKEN = "nothing";
    private static final String REFUSED = "IllegalStateException";

    public static void main(String[] args) {
        sixtyBarsAtMost();
        timesTwoToFour();
        twoRepeatsLieApartOrWithin();
        threeRepeatsAtMostWithinOneAnother();
        bothBarsOfAnEndingWithinTheRepeat();
        someOfThePasses();
        twoEndingsLieApart();
        repeatAndEnding();
        repeatsBesideTwentyEndings();
        threeRepeatsAtTheLastOfSixtyBars();
        eachSignAtOneBarAtMost();
        oneJumpBehindEachBar();
        Check.end();
    }

    private interface Pair {
        void lie(int from, int to, int otherFrom, int otherTo);
    }

    private static void forEachPair(Pair pair) {
        for (int from = 0; from < BARS; from++) {
            for (int to = from; to < BARS; to++) {
                for (int otherFrom = 0; otherFrom < BARS; otherFrom++) {
                    for (int otherTo = otherFrom; otherTo < BARS; otherTo++) {
                        pair.lie(from, to, otherFrom, otherTo);
                    }
                }
            }
        }
    }

    private static int common(int from, int to, int otherFrom, int otherTo) {
        int count = 0;
        for (int bar = from; bar <= to; bar++) {
            count += bar >= otherFrom && bar <= otherTo ? 1 : 0;
        }
        return count;
    }

    private static boolean isApart(int from, int to, int otherFrom, int otherTo) {
        return common(from, to, otherFrom, otherTo) == 0;
    }

    private static boolean isWithin(int from, int to, int otherFrom, int otherTo) {
        return common(from, to, otherFrom, otherTo) == to - from + 1;
    }

    private static boolean isSame(int from, int to, int otherFrom, int otherTo) {
        return from == otherFrom && to == otherTo;
    }

    private static String due(boolean taken) {
        return taken ? TAKEN : REFUSED;
    }

    /** "A score has BARS 0, 1, .. (60 at most)." */
    private static void sixtyBarsAtMost() {
        RepeatWays x = new RepeatWays();
        for (int k = 0; k < 60; k++) {
            Check.is("bars before", x.told(0), k);
            Check.is("its number", x.bar(0), k);
        }
        for (int k = 0; k < 3; k++) {
            Check.throwsState("bar 61", () -> x.bar(0));
        }
        Check.is("60 stay", x.told(0), 60);
        Check.is("60 are played", x.unfold(), 60);
        Check.is("the last one can be told of", x.times(59) + " " + x.comes(59), "1 1");
        Check.throwsBounds("there is no bar 60", () -> x.times(60));
    }

    /** "... is played TIMES 2 .. 4." */
    private static void timesTwoToFour() {
        for (int k = -10; k <= 100; k++) {
            int times = k;
            RepeatWays x = Check.scoreOf(1);
            boolean told = times == 2 || times == 3 || times == 4;
            Check.is("times " + times, Check.thrownBy(() -> x.repeat(0, 0, times)),
                    told ? TAKEN : "IllegalArgumentException");
            Check.is("played with times " + times, x.unfold(), told ? times : 1);
        }
    }

    /** "Two REPEATS lie apart, or one within the other (not from and to the same bars)." */
    private static void twoRepeatsLieApartOrWithin() {
        forEachPair((from, to, otherFrom, otherTo) -> {
            RepeatWays x = Check.scoreOf(BARS);
            x.repeat(from, to, 2);
            boolean good = !isSame(from, to, otherFrom, otherTo)
                    && (isApart(from, to, otherFrom, otherTo)
                    || isWithin(from, to, otherFrom, otherTo)
                    || isWithin(otherFrom, otherTo, from, to));
            String what = "repeat " + from + " " + to + ", then " + otherFrom + " " + otherTo;
            Check.is(what, Check.thrownBy(() -> x.repeat(otherFrom, otherTo, 2)), due(good));
            Check.is(what + ": how many", x.told(1), good ? 2 : 1);
        });
    }

    /** "Three at most lie within one another": in whatever order they come. */
    private static void threeRepeatsAtMostWithinOneAnother() {
        int[][] nests = {{0, 7, 1, 6, 2, 5, 3, 4}, {0, 7, 0, 6, 0, 5, 0, 4}, {0, 7, 1, 7, 2, 7, 7, 7}};
        for (int[] nest : nests) {
            for (int order = 0; order < 256; order++) {
                int[] place = {order & 3, order >> 2 & 3, order >> 4 & 3, order >> 6 & 3};
                if ((1 << place[0] | 1 << place[1] | 1 << place[2] | 1 << place[3]) == 15) {
                    fourthIsRefused(nest, place);
                }
            }
        }
        RepeatWays x = Check.scoreOf(8);
        x.repeat(0, 7, 2);
        x.repeat(0, 3, 2);
        x.repeat(4, 7, 2);
        x.repeat(0, 1, 2);
        x.repeat(2, 3, 2);
        x.repeat(4, 5, 2);
        Check.is("seven, but three within one another", x.repeat(6, 7, 2), 6);
    }

    private static void fourthIsRefused(int[] nest, int[] place) {
        RepeatWays x = Check.scoreOf(8);
        for (int k = 0; k < 4; k++) {
            int from = nest[2 * place[k]];
            int to = nest[2 * place[k] + 1];
            Check.is("within one another, the next is " + from + " " + to + " behind " + k,
                    Check.thrownBy(() -> x.repeat(from, to, 2)), due(k < 3));
        }
        Check.is("three within one another", x.told(1), 3);
    }

    /** "An ENDING is from one bar to another one, both within a REPEAT." */
    private static void bothBarsOfAnEndingWithinTheRepeat() {
        forEachPair((from, to, otherFrom, otherTo) -> {
            RepeatWays x = Check.scoreOf(BARS);
            x.repeat(from, to, 2);
            boolean good = isWithin(otherFrom, otherTo, from, to);
            String what = "repeat " + from + " " + to + ", ending " + otherFrom + " " + otherTo;
            Check.is(what, Check.thrownBy(() -> x.ending(0, otherFrom, otherTo, 1)), due(good));
            Check.is(what + ": how many", x.told(2), good ? 1 : 0);
        });
    }

    /** "... whose PASSES, some of 1 .. TIMES, it has": each set of passes plays in just these. */
    private static void someOfThePasses() {
        for (int times = 2; times <= 4; times++) {
            for (int k = -20; k <= 70; k++) {
                int passes = k;
                RepeatWays x = Check.scoreOf(2);
                x.repeat(0, 1, times);
                boolean good = passes > 0 && passes < 1 << times;
                Check.is("passes " + passes + " of " + times,
                        Check.thrownBy(() -> x.ending(0, 1, 1, passes)),
                        good ? TAKEN : "IllegalArgumentException");
                x.unfold();
                Check.is("times with passes " + passes, x.times(1), good ? Integer.bitCount(passes) : times);
                Check.is("comes with passes " + passes, x.comes(1), times);
            }
        }
    }

    /** "Two ENDINGS lie apart": of one REPEAT, and of two. */
    private static void twoEndingsLieApart() {
        forEachPair((from, to, otherFrom, otherTo) -> {
            boolean good = isApart(from, to, otherFrom, otherTo);
            String what = "ending " + from + " " + to + ", then " + otherFrom + " " + otherTo;
            RepeatWays x = Check.scoreOf(BARS);
            x.repeat(0, BARS - 1, 2);
            x.ending(0, from, to, 1);
            Check.is(what, Check.thrownBy(() -> x.ending(0, otherFrom, otherTo, 1)), due(good));
            RepeatWays y = Check.scoreOf(BARS + 1);
            y.repeat(0, BARS, 2);
            y.repeat(0, BARS - 1, 2);
            y.ending(1, from, to, 1);
            Check.is(what + " of another repeat",
                    Check.thrownBy(() -> y.ending(0, otherFrom, otherTo, 1)), due(good));
        });
    }

    /** "Of a REPEAT and an ENDING one lies within the other (they may have the same bars, too), or apart." */
    private static void repeatAndEnding() {
        forEachPair((from, to, otherFrom, otherTo) -> {
            boolean good = isApart(from, to, otherFrom, otherTo)
                    || isWithin(from, to, otherFrom, otherTo)
                    || isWithin(otherFrom, otherTo, from, to);
            String what = "repeat " + from + " " + to + ", ending " + otherFrom + " " + otherTo;
            RepeatWays x = Check.scoreOf(BARS + 1);
            x.repeat(0, BARS, 2);
            x.repeat(from, to, 2);
            Check.is(what, Check.thrownBy(() -> x.ending(0, otherFrom, otherTo, 1)), due(good));
            RepeatWays y = Check.scoreOf(BARS + 1);
            y.repeat(0, BARS, 2);
            y.ending(0, otherFrom, otherTo, 1);
            Check.is(what + ", the ending first", Check.thrownBy(() -> y.repeat(from, to, 2)), due(good));
        });
    }

    /** "It and another REPEAT, or ENDING, don't lie so": also by the last one of twenty ENDINGS. */
    private static void repeatsBesideTwentyEndings() {
        RepeatWays x = Check.scoreOf(60);
        x.repeat(0, 59, 2);
        for (int k = 0; k < 20; k++) {
            x.ending(0, 3 * k, 3 * k + 1, 3);
        }
        Check.throwsState("over the first ending's end", () -> x.repeat(1, 2, 2));
        Check.throwsState("over the last ending's end", () -> x.repeat(58, 59, 2));
        Check.is("within the first ending", x.repeat(0, 0, 2), 1);
        Check.is("of the last ending's bars", x.repeat(57, 58, 2), 2);
        Check.is("around the last ending", x.repeat(57, 59, 2), 3);
        Check.is("apart from all endings", x.repeat(2, 2, 2), 4);
        Check.is("played", x.unfold(), 2 * (60 + 1 + 1 + 2 + 5));
    }

    /** "(60 at most)" and "three at most lie within one another", both at once. */
    private static void threeRepeatsAtTheLastOfSixtyBars() {
        RepeatWays x = Check.scoreOf(60);
        x.repeat(0, 59, 2);
        x.repeat(1, 59, 2);
        x.repeat(59, 59, 2);
        Check.is("played", x.unfold(), 2 * (1 + 2 * 60));
        Check.is("times of the last", x.times(59) + " " + x.comes(59), "8 8");
        Check.is("passes of the last", x.played(241, 3) + " " + x.played(241, 4), "2 2");
        x.ending(1, 59, 59, 1);
        Check.is("played with an ending", x.unfold(), 2 * (1 + 2 * 58 + 2));
        Check.is("comes with an ending", x.times(59) + " " + x.comes(59), "4 6");
    }

    /** "SIGNS, each at one bar at most": one that moves is no longer where it was. */
    private static void eachSignAtOneBarAtMost() {
        RepeatWays x = Check.scoreOf(4);
        x.jump(3, 0, 1, true);
        x.sign(3, 0);
        x.sign(3, 2);
        Check.is("FINE moved", x.unfold(), 7);
        x.jump(3, 1, 0, true);
        x.sign(0, 3);
        x.sign(0, 1);
        Check.is("SEGNO moved", x.unfold(), 7);
        x.jump(3, 0, 2, true);
        x.sign(2, 0);
        x.sign(2, 1);
        x.sign(1, 1);
        x.sign(1, 3);
        Check.is("TO CODA and CODA moved", x.unfold(), 7);
        for (int sign = 0; sign < 4; sign++) {
            Check.is("all at one bar", x.sign(sign, 3), new int[] {1, 3, 1, 2}[sign]);
        }
        for (int sign = 0; sign < 4; sign++) {
            Check.is("each is there", x.sign(sign, RepeatWays.NONE), 3);
        }
    }

    /** "A JUMP stands behind a bar (one of each)": sixty at most, a second one becomes the first's. */
    private static void oneJumpBehindEachBar() {
        RepeatWays x = Check.scoreOf(60);
        for (int bar = 0; bar < 60; bar++) {
            x.jump(bar, 1, 2, false);
            Check.is("jumps", x.told(3), bar + 1);
        }
        x.jump(0, 0, 0, true);
        x.jump(59, 0, 0, true);
        Check.is("jumps stay 60", x.told(3), 60);
        Check.is("the next fault", x.unfold() + " " + x.fault(), "-2 1");
        for (int bar = 1; bar < 59; bar++) {
            x.plain(bar);
        }
        Check.is("the first and the last one stay", x.told(3), 2);
        Check.is("both act", x.unfold() + " " + x.told(5), 1 + 60 + 60 + " 2");
    }
}
