import java.util.ArrayList;
import java.util.HashMap;
import java.util.List;

/** Promises 13 to 15: fold, folded and told. */
public final class FoldTest {
    public static void main(String[] args) {
        bars();
        blocks();
        blocksWithinBlocks();
        firstWays();
        partOfRow();
        longRows();
        allShortRows();
        whatStays();
        wrongInputs();
        told();
        Check.end();
    }

    private static RepeatWays rowOf(String letters) {
        RepeatWays x = new RepeatWays();
        for (char c : letters.toCharArray()) {
            x.bar(c);
        }
        x.unfold();
        return x;
    }

    /** A bar is its letter, a block begins as 3( and ends as ). */
    private static String text(RepeatWays x) {
        StringBuilder text = new StringBuilder();
        int bars = 0;
        for (int k = 0; k < x.told(6); k++) {
            int kind = x.folded(k, 0);
            int value = x.folded(k, 1);
            bars += kind == 0 ? 1 : 0;
            text.append(kind == 0 ? "" + (char) value : kind == 1 ? value + "(" : value == 0 ? ")" : "?");
        }
        Check.is("bars in " + text, x.told(7), bars);
        return text.toString();
    }

    private static void folds(String letters, String want) {
        RepeatWays x = rowOf(letters);
        int bars = x.fold(0, letters.length());
        Check.is("fold of " + letters, text(x), want);
        Check.is("bars of " + letters, bars, x.told(7));
    }

    /** "A part of one is a bar"; a row without two blocks has a bar for each content. */
    private static void bars() {
        folds("a", "a");
        folds("ab", "ab");
        folds("abc", "abc");
        folds("abca", "abca");
    }

    /** "A block, again and again ... (two blocks at least, all alike ...)"; "the bars of a block count once." */
    private static void blocks() {
        folds("aa", "2(a)");
        folds("aaaaaa", "6(a)");
        folds("ababab", "3(ab)");
        folds("abab", "2(ab)");
        folds("xababy", "x2(ab)y");
        folds("aab", "2(a)b");
    }

    /** "(... the block being FOLDED likewise)", and both parts. */
    private static void blocksWithinBlocks() {
        folds("aabaab", "2(2(a)b)");
        folds("aabbaabb", "2(2(a)2(b))");
        folds("aabaabcaabaabc", "2(2(2(a)b)c)");
        folds("aabbaabbaabbaabb", "4(2(a)2(b))");
    }

    /** "The first of these ways that has the fewest bars": a block of 1, of 2, ..; the first part of 1, of 2, .. */
    private static void firstWays() {
        folds("aaaa", "4(a)");
        folds("abababab", "4(ab)");
        folds("aaab", "3(a)b");
        folds("aaabab", "2(a)2(ab)");
        folds("aabb", "2(a)2(b)");
        folds("abaab", "ab2(a)b");
        folds("aabaabaabaab", "4(2(a)b)");
        folds("ababa", "a2(ba)");
    }

    private static void partOfRow() {
        RepeatWays x = rowOf("zzababzz");
        Check.is("from 2 on, 4", x.fold(2, 4), 2);
        Check.is("from 2 on, 4: items", text(x), "2(ab)");
        Check.is("from 7 on, 1", x.fold(7, 1), 1);
        Check.is("from 7 on, 1: items", text(x), "z");
        Check.is("from 1 on, 6", x.fold(1, 6), 4);
        Check.is("from 1 on, 6: items", text(x), "z2(ab)z");
        RepeatWays y = rowOf("ab");
        y.repeat(0, 1, 4);
        y.repeat(0, 0, 2);
        y.unfold();
        Check.is("the row as it is played", y.fold(0, 12), 2);
        Check.is("the row as it is played: items", text(y), "4(2(a)b)");
    }

    /** 40 contents: the most items, the most bars, the most times. */
    private static void longRows() {
        folds("aabbccddeeffgghhiijjkkllmmnnooppqqrrsstt",
                "2(a)2(b)2(c)2(d)2(e)2(f)2(g)2(h)2(i)2(j)2(k)2(l)2(m)2(n)2(o)2(p)2(q)2(r)2(s)2(t)");
        folds("abcdefghijklmnopqrstuvwxyzABCDEFGHIJKLMN", "abcdefghijklmnopqrstuvwxyzABCDEFGHIJKLMN");
        folds("aaaaaaaaaaaaaaaaaaaaaaaaaaaaaaaaaaaaaaaa", "40(a)");
        RepeatWays x = rowOf("abc");
        x.jump(0, 0, 0, true);
        x.unfold();
        x.fold(0, 4);
        Check.is("equal contents of one bar", text(x), "2(a)bc");
    }

    /** Every row of up to 10 of two letters, of up to 6 of three, as the document's words write it. */
    private static void allShortRows() {
        allRows("", "ab", 10);
        allRows("", "abc", 6);
    }

    private static void allRows(String row, String letters, int more) {
        if (!row.isEmpty()) {
            List<Integer> contents = new ArrayList<>();
            row.chars().forEach(contents::add);
            folds(row, textOf(Model.write(contents, new HashMap<>())));
        }
        for (int k = 0; k < letters.length() && more > 0; k++) {
            allRows(row + letters.charAt(k), letters, more - 1);
        }
    }

    private static String textOf(List<int[]> items) {
        StringBuilder text = new StringBuilder();
        for (int[] item : items) {
            text.append(item[0] == 0 ? "" + (char) item[1] : item[0] == 1 ? item[1] + "(" : ")");
        }
        return text.toString();
    }

    private static void whatStays() {
        RepeatWays x = rowOf("aab");
        x.fold(0, 3);
        x.bar('c');
        x.repeat(0, 3, 2);
        x.unfold();
        Check.is("stays behind an unfold", text(x), "2(a)b");
        x.jump(0, 1, 0, true);
        x.unfold();
        Check.is("stays behind a fault", text(x), "2(a)b");
        Check.throwsBounds("nothing is unfolded", () -> x.fold(0, 1));
        Check.throwsArgument("n is 0", () -> x.fold(0, 0));
        Check.is("stays behind a throw", text(x), "2(a)b");
        x.plain(0);
        x.unfold();
        x.fold(3, 1);
        Check.is("till the next time", text(x), "c");
        Check.is("one item", x.told(6), 1);
    }

    private static void wrongInputs() {
        int least = Integer.MIN_VALUE;
        int most = Integer.MAX_VALUE;
        RepeatWays x = rowOf("aaaaaaaaaaaaaaaaaaaaaaaaaaaaaaaaaaaaaaaaaaaaaaaaaa");
        for (int n : new int[] {least, -1, 0, 41, most}) {
            Check.throwsArgument("n " + n, () -> x.fold(0, n));
            Check.throwsArgument("n, i is wrong too " + n, () -> x.fold(-1, n));
        }
        Check.is("40 at the end", x.fold(10, 40), 1);
        for (int i : new int[] {least, -1, 11, 50, most}) {
            Check.throwsBounds("i " + i, () -> x.fold(i, 40));
        }
        Check.throwsBounds("i most, n 1", () -> x.fold(most, 1));
        Check.throwsBounds("i 50, n 1", () -> x.fold(50, 1));
        Check.is("three items", x.told(6), 3);
        for (int k : new int[] {least, -1, 3, most}) {
            Check.throwsBounds("folded " + k, () -> x.folded(k, 0));
            Check.throwsBounds("folded, what is wrong too " + k, () -> x.folded(k, 2));
        }
        for (int what : new int[] {least, -1, 2, most}) {
            Check.throwsArgument("folded what " + what, () -> x.folded(0, what));
        }
    }

    private static void told() {
        RepeatWays x = rowOf("aabc");
        x.repeat(0, 3, 2);
        x.repeat(0, 1, 3);
        x.ending(0, 3, 3, 1);
        x.sign(0, 1);
        x.jump(0, 0, 0, true);
        x.jump(1, 1, 0, true);
        x.jump(2, 0, 0, true);
        x.unfold();
        x.fold(0, 9);
        int[] want = {4, 2, 1, 3, 0, 0, 0, 0};
        want[4] = Check.row(x).split(" ").length;
        want[5] = 3;
        want[6] = text(x).replaceAll("[0-9]", "").length();
        want[7] = text(x).replaceAll("[0-9()]", "").length();
        for (int what = 0; what < 8; what++) {
            Check.is("told " + what, x.told(what), want[what]);
        }
        for (int what : new int[] {Integer.MIN_VALUE, -1, 8, Integer.MAX_VALUE}) {
            Check.throwsArgument("told " + what, () -> x.told(what));
        }
    }
}
