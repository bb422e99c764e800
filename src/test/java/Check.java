import java.util.NoSuchElementException;

/** What the tests share: each answer that is not the one due is printed and counted. */
final class Check {
    private int wrong;
    private int seen;

    void due(String call, long got, long want) {
        seen++;
        if (got != want) {
            wrong++;
            System.out.println(call + " answered " + got + ", due is " + want);
        }
    }

    void due(String call, boolean got, boolean want) {
        due(call, got ? 1 : 0, want ? 1 : 0);
    }

    /** An answer, and the trouble that the call leaves. */
    void due(FoamBlocks x, String call, long got, long want, int trouble) {
        due(call, got, want);
        due("trouble() after " + call, x.trouble(), trouble);
    }

    void due(FoamBlocks x, String call, boolean got, boolean want, int trouble) {
        due(call, got, want);
        due("trouble() after " + call, x.trouble(), trouble);
    }

    void noneBy(FoamBlocks x, int order, int i) {
        boolean thrown = false;
        try {
            x.by(order, i);
        } catch (NoSuchElementException e) {
            thrown = true;
        }
        due("by(" + order + ", " + i + ") throws NoSuchElementException", thrown, true);
    }

    void end() {
        System.out.println(seen + " answers looked at, " + wrong + " not as due");
        if (wrong != 0 || seen == 0) {
            System.exit(1);
        }
    }
}
