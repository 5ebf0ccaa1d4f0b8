import java.util.Arrays;

/**
 * Ways through a score: repeats within one another, endings by passes, signs, jumps that act once,
 * the row of bars as it is played; and a row written in the fewest bars.
 */
public final class RepeatWays {
    public static final int NONE = -1;

    private static final int MOST_BARS = 60;
    private static final int MOST_REPEATS = 20;
    private static final int MOST_ENDINGS = 20;
    private static final int MOST_WITHIN = 3;
    private static final int MOST_PLAYED = 1000;
    private static final int MOST_FOLDED = 40;
    private static final int FEWEST_TIMES = 2;
    private static final int MOST_TIMES = 4;

    private static final int SEGNO = 0;
    private static final int CODA = 1;
    private static final int TO_CODA = 2;
    private static final int FINE = 3;
    private static final int SIGNS = 4;

    private static final int TO_FIRST_BAR = 0;
    private static final int TO_SEGNO = 1;
    private static final int TILL_END = 0;
    private static final int TILL_FINE = 1;
    private static final int TILL_TO_CODA = 2;

    private static final int NO_FAULT = 0;
    private static final int FAULT_SEGNO = 1;
    private static final int FAULT_FINE = 2;
    private static final int FAULT_CODA = 3;
    private static final int FAULT_TOO_LONG = 4;

    private static final int ITEM_BAR = 0;
    private static final int ITEM_BLOCK = 1;
    private static final int ITEM_BLOCK_END = 2;

    private final Way way;
    private final Score score;
    private final Writing writing;

    public RepeatWays() {
        way = new Way();
        score = way.score;
        writing = new Writing();
    }

    public int bar(int content) throws IllegalStateException {
        if (score.bars >= MOST_BARS) {
            throw new IllegalStateException("there are 60 bars");
        }
        return score.addBar(content);
    }

    public int repeat(int from, int to, int times)
            throws IndexOutOfBoundsException, IllegalArgumentException, IllegalStateException {
        if (!score.hasBar(from) || !score.hasBar(to)) {
            throw new IndexOutOfBoundsException("no such bar");
        }
        if (times < FEWEST_TIMES || times > MOST_TIMES || to < from) {
            throw new IllegalArgumentException("times are 2 to 4, and to is not below from");
        }
        if (!score.takesRepeat(from, to)) {
            throw new IllegalStateException("the repeat can't lie there, or there are 20");
        }
        return score.addRepeat(from, to, times);
    }

    public int ending(int repeat, int from, int to, int passes)
            throws IndexOutOfBoundsException, IllegalArgumentException, IllegalStateException {
        if (!score.hasRepeat(repeat) || !score.hasBar(from) || !score.hasBar(to)) {
            throw new IndexOutOfBoundsException("no such repeat or bar");
        }
        if (to < from || !score.hasPasses(repeat, passes)) {
            throw new IllegalArgumentException("passes are some of the repeat's, and to is not below from");
        }
        if (!score.takesEnding(repeat, from, to)) {
            throw new IllegalStateException("the ending can't lie there, or there are 20");
        }
        return score.addEnding(repeat, from, to, passes);
    }

    public int sign(int sign, int bar) throws IllegalArgumentException, IndexOutOfBoundsException {
        if (sign < 0 || sign >= SIGNS) {
            throw new IllegalArgumentException("no such sign");
        }
        if (bar != NONE && !score.hasBar(bar)) {
            throw new IndexOutOfBoundsException("no such bar");
        }
        return score.moveSign(sign, bar);
    }

    public void jump(int bar, int to, int till, boolean repeats)
            throws IndexOutOfBoundsException, IllegalArgumentException {
        if (!score.hasBar(bar)) {
            throw new IndexOutOfBoundsException("no such bar");
        }
        if (to < TO_FIRST_BAR || to > TO_SEGNO || till < TILL_END || till > TILL_TO_CODA) {
            throw new IllegalArgumentException("to is 0 or 1, till is 0 to 2");
        }
        score.putJump(bar, to, till, repeats);
    }

    public void plain(int bar) throws IndexOutOfBoundsException, IllegalStateException {
        if (!score.hasBar(bar)) {
            throw new IndexOutOfBoundsException("no such bar");
        }
        if (!score.hasJump(bar)) {
            throw new IllegalStateException("there is no jump behind the bar");
        }
        score.takeJump(bar);
    }

    public int unfold() {
        return way.go();
    }

    public int fault() {
        return way.faultBar;
    }

    public int played(int i, int what) throws IndexOutOfBoundsException, IllegalArgumentException {
        if (i < 0 || i >= way.count) {
            throw new IndexOutOfBoundsException("not so many bars are played");
        }
        switch (what) {
            case 0:
                return way.barAt[i];
            case 1:
                return score.contents[way.barAt[i]];
            case 2:
                return way.jumpsBefore[i];
            case 3:
                return way.innerPass[i];
            case 4:
                return way.outerPass[i];
            default:
                throw new IllegalArgumentException("what is 0 to 4");
        }
    }

    public int times(int bar) throws IndexOutOfBoundsException {
        if (!score.hasBar(bar)) {
            throw new IndexOutOfBoundsException("no such bar");
        }
        return way.playedOf[bar];
    }

    public int comes(int bar) throws IndexOutOfBoundsException {
        if (!score.hasBar(bar)) {
            throw new IndexOutOfBoundsException("no such bar");
        }
        return way.comeToOf[bar];
    }

    public int fold(int i, int n) throws IllegalArgumentException, IndexOutOfBoundsException {
        if (n < 1 || n > MOST_FOLDED) {
            throw new IllegalArgumentException("n is 1 to 40");
        }
        // Not i + n > count: that sum could wrap around.
        if (i < 0 || i > way.count - n) {
            throw new IndexOutOfBoundsException("not so many bars are played there");
        }
        for (int k = 0; k < n; k++) {
            writing.row[k] = score.contents[way.barAt[i + k]];
        }
        return writing.writeRow(n);
    }

    public int folded(int k, int what) throws IndexOutOfBoundsException, IllegalArgumentException {
        if (k < 0 || k >= writing.items) {
            throw new IndexOutOfBoundsException("no such item");
        }
        switch (what) {
            case 0:
                return writing.itemKind[k];
            case 1:
                return writing.itemValue[k];
            default:
                throw new IllegalArgumentException("what is 0 or 1");
        }
    }

    public int told(int what) throws IllegalArgumentException {
        switch (what) {
            case 0:
                return score.bars;
            case 1:
                return score.repeats;
            case 2:
                return score.endings;
            case 3:
                return score.jumps;
            case 4:
                return way.count;
            case 5:
                return way.jumps;
            case 6:
                return writing.items;
            case 7:
                return writing.bars;
            default:
                throw new IllegalArgumentException("what is 0 to 7");
        }
    }

    /** What is written: bars with their contents, repeats, endings, signs and jumps. */
    private static final class Score {
        private final int[] contents = new int[MOST_BARS];
        private final int[] repeatFrom = new int[MOST_REPEATS];
        private final int[] repeatTo = new int[MOST_REPEATS];
        private final int[] repeatTimes = new int[MOST_REPEATS];
        private final int[] endingRepeat = new int[MOST_ENDINGS];
        private final int[] endingFrom = new int[MOST_ENDINGS];
        private final int[] endingTo = new int[MOST_ENDINGS];
        private final int[] endingPasses = new int[MOST_ENDINGS];
        private final int[] signBar = new int[SIGNS];
        private final int[] jumpTo = new int[MOST_BARS];
        private final int[] jumpTill = new int[MOST_BARS];
        private final boolean[] jumpRepeats = new boolean[MOST_BARS];
        // Kept for each bar, so that playing need not look through all repeats and endings.
        private final int[] around = new int[MOST_BARS * MOST_WITHIN];
        private final int[] depth = new int[MOST_BARS];
        private final int[] endingAt = new int[MOST_BARS];
        private int bars;
        private int repeats;
        private int endings;
        private int jumps;

        private Score() {
            Arrays.fill(signBar, NONE);
            Arrays.fill(jumpTo, NONE);
            Arrays.fill(endingAt, NONE);
        }

        private boolean hasBar(int bar) {
            return bar >= 0 && bar < bars;
        }

        private boolean hasRepeat(int repeat) {
            return repeat >= 0 && repeat < repeats;
        }

        private boolean hasJump(int bar) {
            return jumpTo[bar] != NONE;
        }

        private boolean hasPasses(int repeat, int passes) {
            int all = (1 << repeatTimes[repeat]) - 1;
            return passes != 0 && (passes & ~all) == 0;
        }

        private int addBar(int content) {
            contents[bars] = content;
            return bars++;
        }

        private static boolean liesWithin(int from, int to, int outerFrom, int outerTo) {
            return outerFrom <= from && to <= outerTo;
        }

        private static boolean liesWell(int from, int to, int otherFrom, int otherTo) {
            return to < otherFrom
                    || otherTo < from
                    || liesWithin(from, to, otherFrom, otherTo)
                    || liesWithin(otherFrom, otherTo, from, to);
        }

        private boolean takesRepeat(int from, int to) {
            return repeats < MOST_REPEATS
                    && liesWellByRepeats(from, to)
                    && !hasSameRepeat(from, to)
                    && liesWellByEndings(from, to)
                    && isDepthLeft(from, to);
        }

        private boolean takesEnding(int repeat, int from, int to) {
            return endings < MOST_ENDINGS
                    && liesWithin(from, to, repeatFrom[repeat], repeatTo[repeat])
                    && liesWellByRepeats(from, to)
                    && isApartFromEndings(from, to);
        }

        private boolean liesWellByRepeats(int from, int to) {
            for (int k = 0; k < repeats; k++) {
                if (!liesWell(from, to, repeatFrom[k], repeatTo[k])) {
                    return false;
                }
            }
            return true;
        }

        private boolean hasSameRepeat(int from, int to) {
            for (int k = 0; k < repeats; k++) {
                if (repeatFrom[k] == from && repeatTo[k] == to) {
                    return true;
                }
            }
            return false;
        }

        private boolean liesWellByEndings(int from, int to) {
            for (int k = 0; k < endings; k++) {
                if (!liesWell(from, to, endingFrom[k], endingTo[k])) {
                    return false;
                }
            }
            return true;
        }

        private boolean isApartFromEndings(int from, int to) {
            for (int k = 0; k < endings; k++) {
                if (from <= endingTo[k] && endingFrom[k] <= to) {
                    return false;
                }
            }
            return true;
        }

        private boolean isDepthLeft(int from, int to) {
            for (int bar = from; bar <= to; bar++) {
                if (depth[bar] >= MOST_WITHIN) {
                    return false;
                }
            }
            return true;
        }

        private int addRepeat(int from, int to, int times) {
            repeatFrom[repeats] = from;
            repeatTo[repeats] = to;
            repeatTimes[repeats] = times;
            for (int bar = from; bar <= to; bar++) {
                putAround(bar, repeats);
            }
            return repeats++;
        }

        /** The repeats around a bar stand from the outermost on. */
        private void putAround(int bar, int repeat) {
            int first = bar * MOST_WITHIN;
            int place = first + depth[bar];
            while (place > first && isRepeatWithin(around[place - 1], repeat)) {
                around[place] = around[place - 1];
                place--;
            }
            around[place] = repeat;
            depth[bar]++;
        }

        private boolean isRepeatWithin(int inner, int outer) {
            return liesWithin(repeatFrom[inner], repeatTo[inner], repeatFrom[outer], repeatTo[outer]);
        }

        private boolean isRepeatWithinEnding(int repeat, int ending) {
            return liesWithin(repeatFrom[repeat], repeatTo[repeat], endingFrom[ending], endingTo[ending]);
        }

        /** The repeat around a bar at a level below its depth, level 0 being the outermost. */
        private int repeatAround(int bar, int level) {
            return around[bar * MOST_WITHIN + level];
        }

        private int addEnding(int repeat, int from, int to, int passes) {
            endingRepeat[endings] = repeat;
            endingFrom[endings] = from;
            endingTo[endings] = to;
            endingPasses[endings] = passes;
            endingAt[from] = endings;
            return endings++;
        }

        private int moveSign(int sign, int bar) {
            int before = signBar[sign];
            signBar[sign] = bar;
            return before;
        }

        private void putJump(int bar, int to, int till, boolean withRepeats) {
            if (!hasJump(bar)) {
                jumps++;
            }
            jumpTo[bar] = to;
            jumpTill[bar] = till;
            jumpRepeats[bar] = withRepeats;
        }

        private void takeJump(int bar) {
            jumpTo[bar] = NONE;
            jumps--;
        }

        private boolean lacksSign(int sign) {
            return signBar[sign] == NONE;
        }

        private int faultOfJump(int bar) {
            if (jumpTo[bar] == TO_SEGNO && lacksSign(SEGNO)) {
                return FAULT_SEGNO;
            }
            if (jumpTill[bar] == TILL_FINE && lacksSign(FINE)) {
                return FAULT_FINE;
            }
            if (jumpTill[bar] == TILL_TO_CODA && (lacksSign(TO_CODA) || lacksSign(CODA))) {
                return FAULT_CODA;
            }
            return NO_FAULT;
        }
    }

    /** A score, and the way through it that was unfolded latest. */
    private static final class Way {
        // Between two times that all repeats are left (60 jumps, each by CODA once) no bar is come to
        // more often than 4 * 4 * 4 times: 121 * 60 * 64 is below this.
        private static final int MOST_STEPS = 1000000;
        private static final int NOT_OPEN = 0;

        private final Score score = new Score();
        private final int[] barAt = new int[MOST_PLAYED];
        private final int[] jumpsBefore = new int[MOST_PLAYED];
        private final int[] innerPass = new int[MOST_PLAYED];
        private final int[] outerPass = new int[MOST_PLAYED];
        private final int[] playedOf = new int[MOST_BARS];
        private final int[] comeToOf = new int[MOST_BARS];
        private final int[] pass = new int[MOST_REPEATS];
        private final boolean[] acted = new boolean[MOST_BARS];
        private int count;
        private int jumps;
        private int latestJump = NONE;
        private boolean wasAtCoda;
        private int faultKind = NO_FAULT;
        private int faultBar = NONE;

        /** Unfolds the score: how many bars are played, or -1 less the fault. */
        private int go() {
            forget();
            setFault(NO_FAULT, NONE);
            findFaultOfJumps();
            if (faultKind == NO_FAULT) {
                playFromFirstBar();
            }
            if (faultKind != NO_FAULT) {
                forget();
                return -1 - faultKind;
            }
            return count;
        }

        private void forget() {
            count = 0;
            jumps = 0;
            latestJump = NONE;
            wasAtCoda = false;
            Arrays.fill(playedOf, 0);
            Arrays.fill(comeToOf, 0);
            for (int bar = 0; bar < MOST_BARS; bar++) {
                acted[bar] = false;
            }
            leaveAll();
        }

        private void setFault(int kind, int bar) {
            faultKind = kind;
            faultBar = bar;
        }

        private void findFaultOfJumps() {
            for (int bar = 0; bar < score.bars && faultKind == NO_FAULT; bar++) {
                if (score.hasJump(bar)) {
                    int kind = score.faultOfJump(bar);
                    setFault(kind, kind == NO_FAULT ? NONE : bar);
                }
            }
        }

        private void playFromFirstBar() {
            int bar = score.bars > 0 ? 0 : NONE;
            for (int step = 0; step < MOST_STEPS && bar != NONE; step++) {
                bar = comeTo(bar);
            }
        }

        /** The bar that is come to next, NONE if that is all; so too in the methods that it asks. */
        private int comeTo(int bar) {
            comeToOf[bar]++;
            openAround(bar);
            int ending = score.endingAt[bar];
            if (ending != NONE && isLeftOut(ending)) {
                leaveWithin(ending);
                return endOf(score.endingTo[ending]);
            }
            if (count >= MOST_PLAYED) {
                setFault(FAULT_TOO_LONG, bar);
                return NONE;
            }
            play(bar);
            return behind(bar);
        }

        private void openAround(int bar) {
            boolean inLastPass = latestJump != NONE && !score.jumpRepeats[latestJump];
            for (int level = 0; level < score.depth[bar]; level++) {
                int repeat = score.repeatAround(bar, level);
                if (pass[repeat] == NOT_OPEN) {
                    pass[repeat] = inLastPass ? score.repeatTimes[repeat] : 1;
                }
            }
        }

        private boolean isLeftOut(int ending) {
            int bit = 1 << (pass[score.endingRepeat[ending]] - 1);
            return (score.endingPasses[ending] & bit) == 0;
        }

        private void leaveWithin(int ending) {
            for (int repeat = 0; repeat < score.repeats; repeat++) {
                if (repeat != score.endingRepeat[ending] && score.isRepeatWithinEnding(repeat, ending)) {
                    pass[repeat] = NOT_OPEN;
                }
            }
        }

        private void leaveAll() {
            Arrays.fill(pass, NOT_OPEN);
        }

        private void play(int bar) {
            int depth = score.depth[bar];
            barAt[count] = bar;
            jumpsBefore[count] = jumps;
            innerPass[count] = depth == 0 ? 0 : pass[score.repeatAround(bar, depth - 1)];
            outerPass[count] = depth == 0 ? 0 : pass[score.repeatAround(bar, 0)];
            count++;
            playedOf[bar]++;
        }

        private int behind(int bar) {
            if (!isInLastPasses(bar)) {
                return endOf(bar);
            }
            if (score.signBar[FINE] == bar && isLatestJumpTill(TILL_FINE)) {
                return NONE;
            }
            if (score.signBar[TO_CODA] == bar && isLatestJumpTill(TILL_TO_CODA) && !wasAtCoda) {
                leaveAll();
                wasAtCoda = true;
                return score.signBar[CODA];
            }
            if (score.hasJump(bar) && !acted[bar]) {
                return act(bar);
            }
            return endOf(bar);
        }

        private boolean isInLastPasses(int bar) {
            for (int level = 0; level < score.depth[bar]; level++) {
                int repeat = score.repeatAround(bar, level);
                if (pass[repeat] < score.repeatTimes[repeat]) {
                    return false;
                }
            }
            return true;
        }

        private boolean isLatestJumpTill(int till) {
            return latestJump != NONE && score.jumpTill[latestJump] == till;
        }

        private int act(int bar) {
            acted[bar] = true;
            latestJump = bar;
            wasAtCoda = false;
            jumps++;
            leaveAll();
            return score.jumpTo[bar] == TO_SEGNO ? score.signBar[SEGNO] : 0;
        }

        private int endOf(int bar) {
            for (int level = score.depth[bar] - 1; level >= 0; level--) {
                int repeat = score.repeatAround(bar, level);
                if (score.repeatTo[repeat] == bar && pass[repeat] != NOT_OPEN) {
                    if (pass[repeat] < score.repeatTimes[repeat]) {
                        // What is open within it ends at this bar too, and so was left just before.
                        pass[repeat]++;
                        return score.repeatFrom[repeat];
                    }
                    pass[repeat] = NOT_OPEN;
                }
            }
            return bar + 1 < score.bars ? bar + 1 : NONE;
        }
    }

    /** The row of contents that was folded latest, written in the fewest bars. */
    private static final class Writing {
        private static final int WIDTH = MOST_FOLDED + 1;
        // Each part that is looked at writes an item or is cut in two, and each block adds its end.
        private static final int MOST_PARTS = 4 * MOST_FOLDED;
        // A block's two more items need two contents at least: three items for two contents.
        private static final int MOST_ITEMS = 2 * MOST_FOLDED;
        private static final int BLOCK_END = 0;

        private final int[] row = new int[MOST_FOLDED];
        // These three have a part's start and its length (alike: two starts) for row and column.
        private final int[] alike = new int[WIDTH * WIDTH];
        private final int[] fewest = new int[WIDTH * WIDTH];
        // Above 0 the length of the block, below 0 that of the first of two parts, 0 a bar.
        private final int[] chosen = new int[WIDTH * WIDTH];
        private final int[] waitingStart = new int[MOST_PARTS];
        private final int[] waitingLength = new int[MOST_PARTS];
        private final int[] itemKind = new int[MOST_ITEMS];
        private final int[] itemValue = new int[MOST_ITEMS];
        private int waiting;
        private int items;
        private int bars;

        private static int cell(int start, int length) {
            return start * WIDTH + length;
        }

        /** Folds the first n contents of the row: in how many bars. */
        private int writeRow(int n) {
            compareContents(n);
            for (int length = 1; length <= n; length++) {
                for (int start = 0; start + length <= n; start++) {
                    choose(start, length);
                }
            }
            writeItems(n);
            return bars;
        }

        /** How many contents are alike from two places on tells at once if a part is made of blocks. */
        private void compareContents(int n) {
            for (int first = n - 1; first >= 0; first--) {
                for (int second = n - 1; second > first; second--) {
                    int behind = second + 1 < n ? alike[cell(first + 1, second + 1)] : 0;
                    alike[cell(first, second)] = row[first] == row[second] ? behind + 1 : 0;
                }
            }
        }

        private void choose(int start, int length) {
            int here = cell(start, length);
            if (length == 1) {
                fewest[here] = 1;
                chosen[here] = 0;
                return;
            }
            // More than any way has, so that the first one is taken.
            fewest[here] = length + 1;
            chooseBlock(start, length);
            chooseParts(start, length);
        }

        private void chooseBlock(int start, int length) {
            int here = cell(start, length);
            for (int block = 1; 2 * block <= length; block++) {
                if (length % block == 0
                        && alike[cell(start, start + block)] >= length - block
                        && fewest[cell(start, block)] < fewest[here]) {
                    fewest[here] = fewest[cell(start, block)];
                    chosen[here] = block;
                }
            }
        }

        private void chooseParts(int start, int length) {
            int here = cell(start, length);
            int best = fewest[here];
            // Two parts have two bars at least: nothing fewer than these is to be found.
            for (int first = 1; first < length && best > 2; first++) {
                int both = fewest[cell(start, first)] + fewest[cell(start + first, length - first)];
                if (both < best) {
                    best = both;
                    chosen[here] = -first;
                }
            }
            fewest[here] = best;
        }

        private void writeItems(int n) {
            items = 0;
            bars = 0;
            waiting = 0;
            putAside(0, n);
            for (int part = 0; part < MOST_PARTS && waiting > 0; part++) {
                waiting--;
                writePart(waitingStart[waiting], waitingLength[waiting]);
            }
        }

        private void writePart(int start, int length) {
            if (length == BLOCK_END) {
                addItem(ITEM_BLOCK_END, 0);
                return;
            }
            int choice = chosen[cell(start, length)];
            if (choice > 0) {
                addItem(ITEM_BLOCK, length / choice);
                putAside(start, BLOCK_END);
                putAside(start, choice);
            } else if (choice < 0) {
                putAside(start - choice, length + choice);
                putAside(start, -choice);
            } else {
                addItem(ITEM_BAR, row[start]);
                bars++;
            }
        }

        /** What is put aside latest is written first. */
        private void putAside(int start, int length) {
            if (waiting < MOST_PARTS) {
                waitingStart[waiting] = start;
                waitingLength[waiting] = length;
                waiting++;
            }
        }

        private void addItem(int kind, int value) {
            if (items < MOST_ITEMS) {
                itemKind[items] = kind;
                itemValue[items] = value;
                items++;
            }
        }
    }
}
