import java.util.HashSet;
import java.util.NoSuchElementException;
import java.util.Set;

/** What the tests share: each answer that is not the one due is printed and counted. */
final class Check {
    private final Set<String> sentences = new HashSet<>();
    private String about = "";
    private int wrong;
    private int seen;

    void due(String call, long got, long want) {
        seen++;
        if (got != want) {
            wrong++;
            System.out.println(about + call + " answered " + got + ", due is " + want);
        }
    }

    void due(String call, boolean got, boolean want) {
        due(call, got ? 1 : 0, want ? 1 : 0);
    }

    /** An answer, and the trouble that the call leaves. */
    void due(FoamBlocks x, String call, long got, long want, int trouble) {
        due(call, got, want);
        due("trouble() after " + call, x.trouble(), trouble);
    }

    void due(FoamBlocks x, String call, boolean got, boolean want, int trouble) {
        due(call, got, want);
        due("trouble() after " + call, x.trouble(), trouble);
    }

    void noneBy(FoamBlocks x, int order, int i) {
        boolean thrown = false;
        try {
            x.by(order, i);
        } catch (NoSuchElementException e) {
            thrown = true;
        }
        due("by(" + order + ", " + i + ") throws NoSuchElementException", thrown, true);
    }

    /** The test of one sentence of the document; what it prints is led by the sentence. */
    void sentence(String words, Runnable test) {
        about = "[" + words + "] ";
        int before = seen;
        due("the sentence has one test", sentences.add(words), true);
        try {
            test.run();
        } catch (RuntimeException e) {
            due("it threw " + e + " at " + e.getStackTrace()[0] + ": calls that threw", 1, 0);
        }
        due("the test looks at something", seen > before + 1, true);
        about = "";
    }

    void end() {
        String told = sentences.isEmpty() ? "" : sentences.size() + " sentences, ";
        System.out.println(told + seen + " answers looked at, " + wrong + " not as due");
        if (wrong != 0 || seen == 0) {
            System.exit(1);
        }
    }
}
