import java.util.ArrayList;
import java.util.Arrays;
import java.util.List;
import java.util.Random;

/** Runs of calls on the class and on the plain model, which must answer alike; the seeds are fixed. */
public final class ModelTest {
    private static final int CALLS = 500;
    private static int faults = 0;
    private static int jumpsActed = 0;
    private static int leftOut = 0;
    private static int longRows = 0;

    public static void main(String[] args) {
        for (int seed = 1; seed <= 600; seed++) {
            oneRun(seed);
        }
        // A run that reaches nothing would also agree.
        Check.is("faults of length came", faults > 5, true);
        Check.is("jumps acted", jumpsActed > 5000, true);
        Check.is("endings were left out", leftOut > 5000, true);
        Check.is("long rows came", longRows > 20, true);
        Check.end();
    }

    private interface Call {
        int ask();
    }

    private static String answerOf(Call call) {
        try {
            return "" + call.ask();
        } catch (RuntimeException e) {
            return e.getClass().getSimpleName();
        }
    }

    private static void oneRun(int seed) {
        Random random = new Random(seed);
        RepeatWays x = new RepeatWays();
        Model model = new Model();
        List<String> told = new ArrayList<>();
        int first = random.nextInt(4) == 0 ? 20 + random.nextInt(41) : random.nextInt(13);
        int letters = 1 + random.nextInt(4);
        for (int k = 0; k < CALLS; k++) {
            int kind = k < first ? 0 : chooseKind(random, k - first);
            int[] a = arguments(random, kind, model, letters);
            String want = answerOf(() -> askModel(model, kind, a));
            String got = answerOf(() -> askClass(x, kind, a));
            told.add(kind + Arrays.toString(a) + " = " + want);
            if (!want.equals(got)) {
                Check.is("seed " + seed + ": " + told, got, want);
                return;
            }
            note(kind, want, model);
        }
    }

    private static void note(int kind, String answer, Model model) {
        if (kind != 6) {
            return;
        }
        faults += answer.equals("-5") ? 1 : 0;
        longRows += answer.length() >= 3 && !answer.startsWith("-") ? 1 : 0;
        jumpsActed += model.jumpsActed;
        for (int bar = 0; bar < model.contents.size(); bar++) {
            leftOut += model.comes[bar] - model.times[bar];
        }
    }

    /** Mostly building first, later mostly asking. */
    private static int chooseKind(Random random, int age) {
        if (age < 40) {
            return new int[] {1, 1, 1, 2, 2, 2, 3, 3, 4, 4, 6, 13}[random.nextInt(12)];
        }
        int pick = random.nextInt(100);
        if (pick < 14) {
            return random.nextInt(6);
        }
        if (pick < 20) {
            return 6;
        }
        return pick < 30 ? 11 : 7 + random.nextInt(7);
    }

    private static int near(Random random, int size) {
        int pick = random.nextInt(60);
        if (pick == 0) {
            return new int[] {-1, size, Integer.MIN_VALUE, Integer.MAX_VALUE, -2}[random.nextInt(5)];
        }
        return size == 0 ? 0 : random.nextInt(size);
    }

    private static int[] arguments(Random random, int kind, Model model, int letters) {
        int bars = model.contents.size();
        int from = near(random, bars);
        int to = random.nextInt(3) == 0 ? near(random, bars) : from + random.nextInt(4);
        to = random.nextInt(10) > 0 ? Math.min(to, bars - 1) : to;
        switch (kind) {
            case 0:
                return new int[] {random.nextInt(letters)};
            case 1:
                int wide = random.nextInt(6) == 0 ? bars - 1 : to;
                return new int[] {wide == to ? from : near(random, 3), wide, 2 + near(random, 3)};
            case 2:
                return new int[] {near(random, model.repeats.size()), from, to, 1 + near(random, 7)};
            case 3:
                return new int[] {near(random, 4), random.nextInt(6) == 0 ? -1 : from};
            case 4:
                return new int[] {from, near(random, 2), near(random, 3), random.nextInt(2)};
            case 5:
            case 9:
            case 10:
                return new int[] {from};
            case 8:
                return new int[] {near(random, model.played.size()), near(random, 5)};
            case 11:
                int n = random.nextInt(30) == 0 ? near(random, 60) : 1 + random.nextInt(40);
                return new int[] {near(random, Math.max(1, model.played.size() - n + 1)), n};
            case 12:
                return new int[] {near(random, model.folded.size()), near(random, 2)};
            case 13:
                return new int[] {near(random, 8)};
            default:
                return new int[0];
        }
    }

    private static int askClass(RepeatWays x, int kind, int[] a) {
        switch (kind) {
            case 0:
                return x.bar(a[0]);
            case 1:
                return x.repeat(a[0], a[1], a[2]);
            case 2:
                return x.ending(a[0], a[1], a[2], a[3]);
            case 3:
                return x.sign(a[0], a[1]);
            case 4:
                x.jump(a[0], a[1], a[2], a[3] == 1);
                return 0;
            case 5:
                x.plain(a[0]);
                return 0;
            case 6:
                return x.unfold();
            case 7:
                return x.fault();
            case 8:
                return x.played(a[0], a[1]);
            case 9:
                return x.times(a[0]);
            case 10:
                return x.comes(a[0]);
            case 11:
                return x.fold(a[0], a[1]);
            case 12:
                return x.folded(a[0], a[1]);
            default:
                return x.told(a[0]);
        }
    }

    private static int askModel(Model x, int kind, int[] a) {
        switch (kind) {
            case 0:
                return x.bar(a[0]);
            case 1:
                return x.repeat(a[0], a[1], a[2]);
            case 2:
                return x.ending(a[0], a[1], a[2], a[3]);
            case 3:
                return x.sign(a[0], a[1]);
            case 4:
                return x.jump(a[0], a[1], a[2], a[3] == 1);
            case 5:
                return x.plain(a[0]);
            case 6:
                return x.unfold();
            case 7:
                return x.faultBar;
            case 8:
                return x.playedAt(a[0], a[1]);
            case 9:
                return x.times[x.barOf(a[0])];
            case 10:
                return x.comes[x.barOf(a[0])];
            case 11:
                return x.fold(a[0], a[1]);
            case 12:
                return x.foldedAt(a[0], a[1]);
            default:
                return x.told(a[0]);
        }
    }
}
