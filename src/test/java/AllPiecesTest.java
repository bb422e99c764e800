/** Promise 16 against every cut that can be made, for ends of many sizes. */
public final class AllPiecesTest {
    public static void main(String[] args) {
        Check check = new Check();
        for (int wide = 1; wide <= 60; wide += wide < 16 ? 1 : 11) {
            for (int high = 1; high <= 60; high += high < 16 ? 1 : 11) {
                FoamBlocks x = new FoamBlocks();
                x.size(wide, high);
                look(check, x, wide, high);
            }
        }
        check.end();
    }

    private static void look(Check check, FoamBlocks x, int wide, int high) {
        for (int w = 1; w <= wide + 1; w += w < 12 ? 1 : 5) {
            for (int h = 1; h <= high + 1; h += h < 12 ? 1 : 5) {
                String call = "pieces(" + w + ", " + h + ") of " + wide + " by " + high;
                int want = w > 60 || h > 60 ? -1 : PlainModel.allCuts(wide, high, w, h);
                check.due(call, x.pieces(w, h), want);
            }
        }
    }
}
