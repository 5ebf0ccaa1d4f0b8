import java.util.ArrayList;
import java.util.HashMap;
import java.util.List;
import java.util.Map;
import java.util.Set;
import java.util.TreeMap;
import java.util.TreeSet;

/** The document's words as plainly as they go, with no thought of speed or room. */
final class Model {
    final List<Integer> contents = new ArrayList<>();
    final List<int[]> repeats = new ArrayList<>();
    final List<int[]> endings = new ArrayList<>();
    final int[] signs = {-1, -1, -1, -1};
    final TreeMap<Integer, int[]> jumps = new TreeMap<>();
    List<int[]> played = new ArrayList<>();
    int[] times = new int[60];
    int[] comes = new int[60];
    int jumpsActed = 0;
    int faultBar = -1;
    List<int[]> folded = new ArrayList<>();

    private Map<Integer, Integer> open;
    private Set<Integer> acted;
    private int[] latest;
    private boolean beenAtCoda;

    int barOf(int bar) {
        if (bar < 0 || bar >= contents.size()) {
            throw new IndexOutOfBoundsException();
        }
        return bar;
    }

    private static void argument(boolean good) {
        if (!good) {
            throw new IllegalArgumentException();
        }
    }

    private static void state(boolean good) {
        if (!good) {
            throw new IllegalStateException();
        }
    }

    int bar(int content) {
        state(contents.size() < 60);
        contents.add(content);
        return contents.size() - 1;
    }

    private static TreeSet<Integer> barsOf(int from, int to) {
        TreeSet<Integer> bars = new TreeSet<>();
        for (int bar = from; bar <= to; bar++) {
            bars.add(bar);
        }
        return bars;
    }

    private TreeSet<Integer> barsOfRepeat(int k) {
        return barsOf(repeats.get(k)[0], repeats.get(k)[1]);
    }

    private static boolean apart(TreeSet<Integer> a, TreeSet<Integer> b) {
        return a.stream().noneMatch(b::contains);
    }

    private static boolean fits(TreeSet<Integer> a, TreeSet<Integer> b) {
        return apart(a, b) || a.containsAll(b) || b.containsAll(a);
    }

    private static int longestChain(List<TreeSet<Integer>> sets, TreeSet<Integer> outer) {
        int longest = 0;
        for (TreeSet<Integer> set : sets) {
            if (outer == null || outer.containsAll(set) && !outer.equals(set)) {
                longest = Math.max(longest, 1 + longestChain(sets, set));
            }
        }
        return longest;
    }

    int repeat(int from, int to, int times) {
        barOf(from);
        barOf(to);
        argument(times >= 2 && times <= 4 && to >= from);
        TreeSet<Integer> bars = barsOf(from, to);
        List<TreeSet<Integer>> all = new ArrayList<>();
        for (int k = 0; k < repeats.size(); k++) {
            TreeSet<Integer> other = barsOfRepeat(k);
            state(fits(bars, other) && !bars.equals(other));
            all.add(other);
        }
        for (int[] ending : endings) {
            state(fits(bars, barsOf(ending[1], ending[2])));
        }
        all.add(bars);
        state(longestChain(all, null) <= 3);
        state(repeats.size() < 20);
        repeats.add(new int[] {from, to, times});
        return repeats.size() - 1;
    }

    int ending(int repeat, int from, int to, int passes) {
        if (repeat < 0 || repeat >= repeats.size()) {
            throw new IndexOutOfBoundsException();
        }
        barOf(from);
        barOf(to);
        argument(to >= from && passes != 0);
        for (int bit = 0; bit < 32; bit++) {
            argument((passes >>> bit & 1) == 0 || bit + 1 <= repeats.get(repeat)[2]);
        }
        TreeSet<Integer> bars = barsOf(from, to);
        state(barsOfRepeat(repeat).containsAll(bars));
        for (int[] ending : endings) {
            state(apart(bars, barsOf(ending[1], ending[2])));
        }
        for (int k = 0; k < repeats.size(); k++) {
            state(fits(bars, barsOfRepeat(k)));
        }
        state(endings.size() < 20);
        endings.add(new int[] {repeat, from, to, passes});
        return endings.size() - 1;
    }

    int sign(int sign, int bar) {
        argument(sign >= 0 && sign <= 3);
        int before = signs[sign];
        signs[sign] = bar == -1 ? -1 : barOf(bar);
        return before;
    }

    int jump(int bar, int to, int till, boolean withRepeats) {
        barOf(bar);
        argument(to >= 0 && to <= 1 && till >= 0 && till <= 2);
        jumps.put(bar, new int[] {to, till, withRepeats ? 1 : 0});
        return 0;
    }

    int plain(int bar) {
        barOf(bar);
        state(jumps.containsKey(bar));
        jumps.remove(bar);
        return 0;
    }

    private void nothingUnfolded() {
        played = new ArrayList<>();
        times = new int[60];
        comes = new int[60];
        jumpsActed = 0;
        open = new HashMap<>();
        acted = new TreeSet<>();
        latest = null;
        beenAtCoda = false;
    }

    int unfold() {
        nothingUnfolded();
        faultBar = -1;
        for (Map.Entry<Integer, int[]> e : jumps.entrySet()) {
            int[] jump = e.getValue();
            int fault = jump[0] == 1 && signs[0] < 0 ? 1
                    : jump[1] == 1 && signs[3] < 0 ? 2
                    : jump[1] == 2 && (signs[2] < 0 || signs[1] < 0) ? 3 : 0;
            if (fault > 0) {
                faultBar = e.getKey();
                return -1 - fault;
            }
        }
        int bar = contents.isEmpty() ? -1 : 0;
        while (bar >= 0) {
            bar = comeTo(bar);
        }
        if (bar == -2) {
            nothingUnfolded();
            return -5;
        }
        return played.size();
    }

    /** The repeats around a bar, the outer ones first. */
    private List<Integer> around(int bar) {
        List<Integer> found = new ArrayList<>();
        for (int k = 0; k < repeats.size(); k++) {
            if (barsOfRepeat(k).contains(bar)) {
                found.add(k);
            }
        }
        found.sort((a, b) -> barsOfRepeat(b).size() - barsOfRepeat(a).size());
        return found;
    }

    /** The next bar that is come to, -1: that is all, -2: a fault. */
    private int comeTo(int bar) {
        comes[bar]++;
        List<Integer> around = around(bar);
        for (int k : around) {
            open.putIfAbsent(k, latest != null && latest[2] == 0 ? repeats.get(k)[2] : 1);
        }
        for (int[] ending : endings) {
            if (ending[1] == bar && (ending[3] >> open.get(ending[0]) - 1 & 1) == 0) {
                TreeSet<Integer> bars = barsOf(ending[1], ending[2]);
                open.keySet().removeIf(k -> k != ending[0] && bars.containsAll(barsOfRepeat(k)));
                return endOf(ending[2]);
            }
        }
        if (played.size() == 1000) {
            faultBar = bar;
            return -2;
        }
        int inner = around.isEmpty() ? 0 : open.get(around.get(around.size() - 1));
        int outer = around.isEmpty() ? 0 : open.get(around.get(0));
        played.add(new int[] {bar, contents.get(bar), jumpsActed, inner, outer});
        times[bar]++;
        return behind(bar);
    }

    private int behind(int bar) {
        for (int k : around(bar)) {
            if (open.get(k) != repeats.get(k)[2]) {
                return endOf(bar);
            }
        }
        if (signs[3] == bar && latest != null && latest[1] == 1) {
            return -1;
        }
        if (signs[2] == bar && latest != null && latest[1] == 2 && !beenAtCoda) {
            open.clear();
            beenAtCoda = true;
            return signs[1];
        }
        if (jumps.containsKey(bar) && acted.add(bar)) {
            open.clear();
            latest = jumps.get(bar);
            beenAtCoda = false;
            jumpsActed++;
            return latest[0] == 0 ? 0 : signs[0];
        }
        return endOf(bar);
    }

    private int endOf(int bar) {
        List<Integer> around = around(bar);
        for (int at = around.size() - 1; at >= 0; at--) {
            int k = around.get(at);
            if (open.containsKey(k) && repeats.get(k)[1] == bar) {
                if (open.get(k) < repeats.get(k)[2]) {
                    open.merge(k, 1, Integer::sum);
                    TreeSet<Integer> bars = barsOfRepeat(k);
                    open.keySet().removeIf(o -> o != k && bars.containsAll(barsOfRepeat(o)));
                    return repeats.get(k)[0];
                }
                open.remove(k);
            }
        }
        return bar + 1 < contents.size() ? bar + 1 : -1;
    }

    int playedAt(int i, int what) {
        if (i < 0 || i >= played.size()) {
            throw new IndexOutOfBoundsException();
        }
        argument(what >= 0 && what <= 4);
        return played.get(i)[what];
    }

    int fold(int i, int n) {
        argument(n >= 1 && n <= 40);
        if (i < 0 || (long) i + n > played.size()) {
            throw new IndexOutOfBoundsException();
        }
        List<Integer> row = new ArrayList<>();
        for (int k = i; k < i + n; k++) {
            row.add(played.get(k)[1]);
        }
        folded = write(row, new HashMap<>());
        return barsIn(folded);
    }

    private static int barsIn(List<int[]> items) {
        return (int) items.stream().filter(item -> item[0] == 0).count();
    }

    static List<int[]> write(List<Integer> row, Map<List<Integer>, List<int[]>> known) {
        if (known.containsKey(row)) {
            return known.get(row);
        }
        List<int[]> best = new ArrayList<>();
        int n = row.size();
        if (n == 1) {
            best.add(new int[] {0, row.get(0)});
        }
        for (int block = 1; block < n; block++) {
            if (n % block == 0 && row.subList(block, n).equals(row.subList(0, n - block))) {
                List<int[]> items = new ArrayList<>();
                items.add(new int[] {1, n / block});
                items.addAll(write(row.subList(0, block), known));
                items.add(new int[] {2, 0});
                best = best.isEmpty() || barsIn(items) < barsIn(best) ? items : best;
            }
        }
        for (int first = 1; first < n; first++) {
            List<int[]> items = new ArrayList<>(write(row.subList(0, first), known));
            items.addAll(write(row.subList(first, n), known));
            best = best.isEmpty() || barsIn(items) < barsIn(best) ? items : best;
        }
        known.put(row, best);
        return best;
    }

    int foldedAt(int k, int what) {
        if (k < 0 || k >= folded.size()) {
            throw new IndexOutOfBoundsException();
        }
        argument(what >= 0 && what <= 1);
        return folded.get(k)[what];
    }

    int told(int what) {
        argument(what >= 0 && what <= 7);
        return new int[] {contents.size(), repeats.size(), endings.size(), jumps.size(),
            played.size(), jumpsActed, folded.size(), barsIn(folded)}[what];
    }
}
