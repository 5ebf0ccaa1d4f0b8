/** The example in README.md: whoever tries it must see what is said there. */
public final class ReadmeTest {
    public static void main(String[] args) {
        RepeatWays x = new RepeatWays();
        for (int content : new int[] {1, 2, 2, 3, 4}) {
            x.bar(content);
        }
        int r = x.repeat(1, 3, 2);
        x.ending(r, 2, 2, 1);
        x.ending(r, 3, 3, 2);
        x.sign(3, 1);
        x.jump(4, 0, 1, false);
        Check.is("unfold()", x.unfold(), 8);
        Check.is("the bars", Check.row(x), "0 1 2 1 3 4 0 1");
        Check.is("played(7, 0)", x.played(7, 0), 1);
        Check.is("fold(0, 5)", x.fold(0, 5), 3);
        Check.is("its items", items(x), "0:1 1:3 0:2 2:0 0:3");
        Check.end();
    }

    private static String items(RepeatWays x) {
        StringBuilder text = new StringBuilder();
        for (int k = 0; k < x.told(6); k++) {
            text.append(k == 0 ? "" : " ").append(x.folded(k, 0)).append(":").append(x.folded(k, 1));
        }
        return text.toString();
    }
}
