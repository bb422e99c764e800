/** Promises 7 to 10: a test of its own for each sentence that names a boundary case. */
public final class BeltEdgesTest {
    private static final Check check = new Check();
    private static final int LEAST = Integer.MIN_VALUE;
    private static final int MOST = Integer.MAX_VALUE;

    public static void main(String[] args) {
        pour();
        run();
        best();
        cut();
        cutWhenFull();
        check.end();
    }

    private static FoamBlocks withKinds(int many) {
        FoamBlocks x = new FoamBlocks();
        for (int i = 0; i < many; i++) {
            x.kind(100, 1);
        }
        return x;
    }

    /** Two kinds, and nothing mixed between them. */
    private static FoamBlocks withoutMixed() {
        FoamBlocks x = withKinds(2);
        x.change(0, 1, 0);
        x.change(1, 0, 0);
        return x;
    }

    private static void pours(FoamBlocks x, int kind, int v) {
        int left = v;
        for (int i = 0; i < 5 && left > 0; i++) {
            int now = Math.min(left, 400);
            x.pour(kind, now);
            left -= now;
        }
    }

    private static void runIs(FoamBlocks x, int i, int kind, int length, int lot) {
        check.due("run(" + i + ", 0)", x.run(i, 0), kind);
        check.due("run(" + i + ", 1)", x.run(i, 1), length);
        check.due("run(" + i + ", 2)", x.run(i, 2), lot);
    }

    private static void pour() {
        check.sentence("II: POURED: so much (1 .. 400)", BeltEdgesTest::pourNumbers);
        check.sentence("7: 1 there is none such", BeltEdgesTest::pourOfNone);
        check.sentence("7: NONE: 1; 2; 3", BeltEdgesTest::pourReasons);
        check.sentence("II: to the end of THE BELT", BeltEdgesTest::pourAtTheEnd);
        check.sentence("II: if the last foam .. came of another KIND", BeltEdgesTest::lastFoam);
        check.sentence("II: An empty BELT has no CHANGE ahead", BeltEdgesTest::emptyBelt);
        check.sentence("II: THE BELT holds 2,000 at most", BeltEdgesTest::longest);
        check.sentence("II: 2,000 with the mixed foam", BeltEdgesTest::longestWithMixed);
        check.sentence("II: and 60 runs", BeltEdgesTest::sixtyRuns);
        check.sentence("II: 60 runs with the mixed ones", BeltEdgesTest::sixtyRunsWithMixed);
        check.sentence("7: 3 (nothing is poured)", BeltEdgesTest::nothingPoured);
        check.sentence("II: without anything between is one run", BeltEdgesTest::oneRun);
        check.sentence("II: numbered from 0 on, as it begins", BeltEdgesTest::lotNumbers);
    }

    private static void pourNumbers() {
        for (int wrong : new int[] {LEAST, -400, -1, 0, 401, MOST}) {
            FoamBlocks x = withKinds(1);
            check.due(x, "pour(0, " + wrong + ")", x.pour(0, wrong), -1, 2);
            check.due("how long THE BELT is", x.count(3), 0);
        }
        for (int right : new int[] {1, 2, 399, 400}) {
            FoamBlocks x = withKinds(1);
            check.due(x, "pour(0, " + right + ")", x.pour(0, right), right, 0);
        }
        FoamBlocks y = withKinds(1);
        y.pour(0, 400);
        check.due(y, "a number that would wrap round", y.pour(0, MOST), -1, 2);
        check.due("how long THE BELT is", y.count(3), 400);
    }

    private static void pourOfNone() {
        FoamBlocks x = withKinds(2);
        for (int none : new int[] {LEAST, -2, -1, 2, 5, MOST}) {
            check.due(x, "pour(" + none + ", 5)", x.pour(none, 5), -1, 1);
        }
    }

    private static void pourReasons() {
        FoamBlocks x = withKinds(2);
        pours(x, 0, 2000);
        check.due(x, "pour(2, 0)", x.pour(2, 0), -1, 1);
        check.due(x, "pour(2, 5)", x.pour(2, 5), -1, 1);
        check.due(x, "pour(0, 0)", x.pour(0, 0), -1, 2);
        check.due(x, "pour(0, 401)", x.pour(0, 401), -1, 2);
        check.due(x, "pour(0, 1)", x.pour(0, 1), -1, 3);
    }

    private static void pourAtTheEnd() {
        FoamBlocks x = withKinds(3);
        x.pour(1, 11);
        x.pour(2, 12);
        x.pour(0, 13);
        runIs(x, 0, 1, 11, 0);
        runIs(x, 1, -2, 20, -2);
        runIs(x, 2, 2, 12, 1);
        runIs(x, 3, -2, 20, -2);
        runIs(x, 4, 0, 13, 2);
        check.due("how long THE BELT is", x.count(3), 76);
    }

    /** The last foam counts, not the first, and it stays the last one when what is ahead is cut. */
    private static void lastFoam() {
        FoamBlocks x = withKinds(3);
        x.change(0, 1, 1);
        x.change(1, 0, 2);
        x.change(1, 2, 4);
        x.change(2, 0, 8);
        x.change(0, 2, 16);
        check.due("pour(0, 100)", x.pour(0, 100), 100);
        check.due("pour(1, 100)", x.pour(1, 100), 201);
        check.due("of the last KIND", x.pour(1, 100), 301);
        check.due("of the first KIND", x.pour(0, 100), 403);
        x.cut();
        x.cut();
        x.cut();
        x.cut();
        check.due("runs", x.count(2), 1);
        check.due("pour(0, 100)", x.pour(0, 100), 200);
        check.due("pour(2, 100)", x.pour(2, 100), 316);
        check.due("pour(0, 10)", x.pour(0, 10), 334);
    }

    private static void emptyBelt() {
        FoamBlocks x = withKinds(2);
        check.due("at first", x.pour(1, 5), 5);
        check.due("runs", x.count(2), 1);
        x.cut();
        check.due("an empty BELT", x.count(2), 0);
        check.due("after another KIND", x.pour(0, 6), 6);
        check.due("runs", x.count(2), 1);
        runIs(x, 0, 0, 6, 1);
    }

    private static void longest() {
        FoamBlocks x = withKinds(1);
        pours(x, 0, 1999);
        check.due(x, "one too many", x.pour(0, 2), -1, 3);
        check.due("how long THE BELT is", x.count(3), 1999);
        check.due(x, "2,000", x.pour(0, 1), 2000, 0);
        check.due(x, "2,001", x.pour(0, 1), -1, 3);
        check.due("how long THE BELT is", x.count(3), 2000);
    }

    private static void longestWithMixed() {
        FoamBlocks x = withKinds(2);
        x.change(0, 1, 60);
        pours(x, 0, 1939);
        check.due(x, "2,001 with 60", x.pour(1, 2), -1, 3);
        check.due(x, "2,000 with 60", x.pour(1, 1), 2000, 0);
        FoamBlocks y = withKinds(2);
        y.change(0, 1, 60);
        pours(y, 0, 1960);
        check.due(y, "no room for the mixed foam", y.pour(1, 1), -1, 3);
        check.due(y, "room for the same KIND", y.pour(0, 40), 2000, 0);
    }

    private static void sixtyRuns() {
        FoamBlocks x = withoutMixed();
        for (int i = 0; i < 60; i++) {
            check.due(x, "run " + i, x.pour(i % 2, 1), i + 1, 0);
        }
        check.due(x, "a 61st run", x.pour(0, 1), -1, 3);
        check.due("runs", x.count(2), 60);
        check.due(x, "more of the 60th", x.pour(1, 1), 61, 0);
        check.due("runs", x.count(2), 60);
        check.due("run(59, 1)", x.run(59, 1), 2);
        check.due("run(60, 1)", x.run(60, 1), -1);
    }

    private static void sixtyRunsWithMixed() {
        FoamBlocks x = withKinds(2);
        x.change(0, 1, 1);
        x.change(1, 0, 1);
        for (int i = 0; i < 30; i++) {
            x.pour(i % 2, 1);
        }
        check.due("runs", x.count(2), 59);
        check.due(x, "two runs more", x.pour(0, 1), -1, 3);
        check.due("runs", x.count(2), 59);
        x.cut();
        check.due(x, "two runs more when one is cut", x.pour(0, 1), 60, 0);
        check.due("runs", x.count(2), 60);
        runIs(x, 58, -2, 1, -2);
        runIs(x, 59, 0, 1, 30);
    }

    private static void nothingPoured() {
        FoamBlocks x = withKinds(2);
        pours(x, 0, 1990);
        check.due(x, "no room for 20 and 5", x.pour(1, 5), -1, 3);
        check.due(x, "no room for 11", x.pour(0, 11), -1, 3);
        check.due("runs", x.count(2), 1);
        check.due("how long THE BELT is", x.count(3), 1990);
        check.due("LOTS", x.count(4), 1);
        runIs(x, 0, 0, 1990, 0);
        check.due("run(1, 0)", x.run(1, 0), -1);
        x.change(0, 1, 5);
        check.due(x, "room for the mixed foam alone", x.pour(1, 6), -1, 3);
        check.due("runs", x.count(2), 1);
        check.due("how long THE BELT is", x.count(3), 1990);
        check.due(x, "room for 10", x.pour(0, 10), 2000, 0);
    }

    private static void oneRun() {
        FoamBlocks x = withoutMixed();
        x.pour(0, 1);
        x.pour(0, 2);
        x.pour(1, 4);
        x.pour(0, 8);
        x.pour(0, 16);
        check.due("runs", x.count(2), 3);
        check.due("LOTS", x.count(4), 3);
        runIs(x, 0, 0, 3, 0);
        runIs(x, 1, 1, 4, 1);
        runIs(x, 2, 0, 24, 2);
        x.cut();
        check.due("pour(0, 32)", x.pour(0, 32), 60);
        runIs(x, 1, 0, 56, 2);
    }

    private static void lotNumbers() {
        FoamBlocks x = withKinds(2);
        x.pour(0, 5);
        runIs(x, 0, 0, 5, 0);
        x.pour(0, 401);
        x.pour(1, 0);
        x.pour(1, 5);
        check.due("mixed foam is no LOT", x.count(4), 2);
        runIs(x, 2, 1, 5, 1);
        x.cut();
        x.cut();
        x.cut();
        check.due("LOTS when all is cut", x.count(4), 2);
        x.pour(1, 5);
        check.due("one that begins anew", x.run(0, 2), 2);
        check.due("LOTS", x.count(4), 3);
    }

    private static void run() {
        check.sentence("8: the i-th run; NONE", BeltEdgesTest::runNumbers);
        check.sentence("8: what 0 .. 2; NONE", BeltEdgesTest::runWhats);
        check.sentence("8: (-2: mixed)", BeltEdgesTest::mixedRun);
        check.sentence("8: the first run is cut, the others move up", BeltEdgesTest::runsMoveUp);
    }

    private static void runNumbers() {
        FoamBlocks x = withKinds(2);
        for (int what = 0; what < 3; what++) {
            check.due("run(0, " + what + ") of an empty BELT", x.run(0, what), -1);
        }
        x.pour(0, 5);
        x.pour(1, 5);
        for (int none : new int[] {LEAST, -2, -1, 3, 59, 60, MOST}) {
            for (int what = 0; what < 3; what++) {
                check.due("run(" + none + ", " + what + ")", x.run(none, what), -1);
            }
        }
        check.due("the last one's KIND", x.run(2, 0), 1);
    }

    private static void runWhats() {
        FoamBlocks x = withKinds(2);
        x.pour(0, 5);
        x.pour(1, 5);
        for (int none : new int[] {LEAST, -2, -1, 3, 4, MOST}) {
            check.due("run(0, " + none + ")", x.run(0, none), -1);
            check.due("run(1, " + none + ") of mixed foam", x.run(1, none), -1);
        }
        check.due("run(0, 2)", x.run(0, 2), 0);
    }

    private static void mixedRun() {
        FoamBlocks x = withKinds(2);
        x.change(0, 1, 60);
        x.pour(0, 5);
        x.pour(1, 5);
        runIs(x, 1, -2, 60, -2);
        x.cut();
        runIs(x, 0, -2, 60, -2);
    }

    private static void runsMoveUp() {
        FoamBlocks x = withKinds(3);
        x.change(1, 2, 0);
        x.pour(0, 5);
        x.pour(1, 6);
        x.pour(2, 7);
        x.cut();
        runIs(x, 0, -2, 20, -2);
        runIs(x, 1, 1, 6, 1);
        runIs(x, 2, 2, 7, 2);
        check.due("run(3, 0)", x.run(3, 0), -1);
        x.cut();
        x.cut();
        runIs(x, 0, 2, 7, 2);
        check.due("how long THE BELT is", x.count(3), 7);
        x.cut();
        check.due("run(0, 0)", x.run(0, 0), -1);
    }

    private static void best() {
        check.sentence("9: a run so long (0 .. 2,000)", BeltEdgesTest::bestNumbers);
        check.sentence("9: 1 there is none such", BeltEdgesTest::bestOfNone);
        check.sentence("9: NONE: 1; 2", BeltEdgesTest::bestReasons);
        check.sentence("9: no LENGTHS are worth nothing", BeltEdgesTest::bestWithoutLengths);
        check.sentence("9: nothing is cut by it", BeltEdgesTest::bestChangesNothing);
    }

    private static void bestNumbers() {
        FoamBlocks x = withKinds(1);
        x.length(5);
        x.worth(0, 0, 999);
        for (int wrong : new int[] {LEAST, -1, 2001, MOST}) {
            check.due(x, "best(0, " + wrong + ")", x.best(0, wrong), -1, 2);
        }
        check.due(x, "best(0, 0)", x.best(0, 0), 0, 0);
        check.due(x, "best(0, 4)", x.best(0, 4), 0, 0);
        check.due(x, "best(0, 5)", x.best(0, 5), 999, 0);
        check.due(x, "best(0, 1999)", x.best(0, 1999), 399 * 999, 0);
        check.due(x, "best(0, 2000)", x.best(0, 2000), 400 * 999, 0);
    }

    private static void bestOfNone() {
        FoamBlocks x = withKinds(2);
        for (int none : new int[] {LEAST, -2, -1, 2, 5, MOST}) {
            check.due(x, "best(" + none + ", 5)", x.best(none, 5), -1, 1);
        }
    }

    private static void bestReasons() {
        FoamBlocks x = withKinds(1);
        check.due(x, "best(1, 2001)", x.best(1, 2001), -1, 1);
        check.due(x, "best(-1, -1)", x.best(-1, -1), -1, 1);
        check.due(x, "best(0, 2001)", x.best(0, 2001), -1, 2);
    }

    private static void bestWithoutLengths() {
        FoamBlocks x = withKinds(1);
        check.due(x, "best(0, 0)", x.best(0, 0), 0, 0);
        check.due(x, "best(0, 2000)", x.best(0, 2000), 0, 0);
    }

    private static void bestChangesNothing() {
        FoamBlocks x = withKinds(1);
        x.length(10);
        x.worth(0, 0, 7);
        x.pour(0, 25);
        check.due("best(0, 25)", x.best(0, 25), 14);
        check.due("best(0, 25) again", x.best(0, 25), 14);
        runIs(x, 0, 0, 25, 0);
        check.due("BLOCKS", x.count(5), 0);
        check.due("offcuts", x.shred(), 0);
    }

    private static void cut() {
        check.sentence("10: 4 (an empty BELT)", BeltEdgesTest::cutOfNothing);
        check.sentence("II: mixed: it is all offcuts, and gone", BeltEdgesTest::cutOfMixed);
        check.sentence("II: THE BELT's first run", BeltEdgesTest::cutOfTheFirst);
        check.sentence("II: each as often as one likes", BeltEdgesTest::cutAsOften);
        check.sentence("II: sum is no more than the run's", BeltEdgesTest::cutNoMore);
        check.sentence("II: with the most WORTH", BeltEdgesTest::cutOfMostWorth);
        check.sentence("II: WORTH of the run's KIND", BeltEdgesTest::cutOfItsKind);
        check.sentence("II: the longest first LENGTH", BeltEdgesTest::cutLongestFirst);
        check.sentence("II: then the longest second ..", BeltEdgesTest::cutLongestSecond);
        check.sentence("II: LENGTHS of no WORTH are cut, too", BeltEdgesTest::cutOfNoWorth);
        check.sentence("II: what is left of it is offcuts", BeltEdgesTest::cutLeaves);
        check.sentence("II: no LENGTHS leave all as offcuts", BeltEdgesTest::cutWithoutLengths);
        check.sentence("IV: OFFCUTS of a CUT .. downwards", BeltEdgesTest::cutDownwards);
        check.sentence("II: a BLOCK, in that order", BeltEdgesTest::cutInOrder);
        check.sentence("II: cut NOW", BeltEdgesTest::cutNow);
    }

    private static void blocksAre(FoamBlocks x, int... tenths) {
        check.due("cut()", x.cut(), tenths.length);
        check.due("BLOCKS", x.count(5), tenths.length);
        for (int i = 0; i < tenths.length; i++) {
            check.due("block(" + i + ", 2)", x.block(i, 2), tenths[i]);
        }
    }

    /** One kind; lengths and their worth by turns. */
    private static FoamBlocks withWorths(int... lengthsAndWorths) {
        FoamBlocks x = withKinds(1);
        for (int i = 0; i + 1 < lengthsAndWorths.length; i += 2) {
            int number = x.length(lengthsAndWorths[i]);
            x.worth(number, 0, lengthsAndWorths[i + 1]);
        }
        return x;
    }

    private static void cutOfNothing() {
        FoamBlocks x = withWorths(10, 1);
        check.due(x, "cut() at first", x.cut(), -1, 4);
        x.pour(0, 10);
        check.due(x, "cut()", x.cut(), 1, 0);
        check.due(x, "cut() when all is cut", x.cut(), -1, 4);
        check.due("BLOCKS", x.count(5), 1);
        check.due("runs", x.count(2), 0);
    }

    private static void cutOfMixed() {
        FoamBlocks x = withKinds(2);
        x.length(5);
        x.worth(0, 0, 9);
        x.worth(0, 1, 9);
        x.change(0, 1, 60);
        x.pour(0, 5);
        x.pour(1, 5);
        x.cut();
        check.due(x, "cut() of 60", x.cut(), 0, 0);
        check.due("BLOCKS", x.count(5), 1);
        check.due("runs", x.count(2), 1);
        check.due("how long THE BELT is", x.count(3), 5);
        check.due("offcuts", x.shred(), 120);
    }

    private static void cutOfTheFirst() {
        FoamBlocks x = withoutMixed();
        x.length(5);
        x.pour(0, 5);
        x.pour(1, 10);
        check.due("cut()", x.cut(), 1);
        check.due("KIND", x.block(0, 1), 0);
        check.due("LOT", x.block(0, 3), 0);
        runIs(x, 0, 1, 10, 1);
        check.due("how long THE BELT is", x.count(3), 10);
        check.due("cut()", x.cut(), 2);
        check.due("KIND", x.block(1, 1), 1);
        check.due("LOT", x.block(2, 3), 1);
    }

    private static void cutAsOften() {
        FoamBlocks x = withWorths(10, 1, 7, 1);
        x.pour(0, 38);
        blocksAre(x, 10, 7, 7, 7, 7);
        FoamBlocks y = withWorths(80, 1);
        pours(y, 0, 2000);
        check.due("25 of 80", y.cut(), 25);
        check.due("offcuts", y.shred(), 0);
    }

    private static void cutNoMore() {
        FoamBlocks x = withWorths(30, 9, 20, 5);
        x.pour(0, 50);
        blocksAre(x, 30, 20);
        FoamBlocks y = withWorths(30, 9, 20, 5);
        y.pour(0, 49);
        blocksAre(y, 20, 20);
        FoamBlocks z = withWorths(30, 9, 20, 5);
        z.pour(0, 19);
        blocksAre(z);
        FoamBlocks one = withWorths(30, 9, 20, 5);
        one.pour(0, 20);
        blocksAre(one, 20);
    }

    private static void cutOfMostWorth() {
        FoamBlocks x = withWorths(30, 15, 12, 7);
        x.pour(0, 36);
        blocksAre(x, 12, 12, 12);
        FoamBlocks y = withWorths(30, 22, 12, 7);
        y.pour(0, 36);
        blocksAre(y, 30);
        FoamBlocks z = withWorths(80, 998, 40, 499, 5, 63);
        z.pour(0, 80);
        check.due("best(0, 80)", z.best(0, 80), 16 * 63);
        check.due("cut()", z.cut(), 16);
        check.due("block(0, 2)", z.block(0, 2), 5);
    }

    private static void cutOfItsKind() {
        FoamBlocks x = withoutMixed();
        x.length(10);
        x.length(20);
        x.worth(0, 0, 5);
        x.worth(1, 0, 9);
        x.worth(0, 1, 5);
        x.worth(1, 1, 11);
        x.pour(0, 20);
        x.pour(1, 20);
        check.due("of KIND 0", x.cut(), 2);
        check.due("of KIND 1", x.cut(), 1);
    }

    /** As good ones, in whatever order the lengths are told. */
    private static void cutLongestFirst() {
        FoamBlocks x = withWorths(10, 10, 30, 30, 20, 20);
        x.pour(0, 40);
        blocksAre(x, 30, 10);
        FoamBlocks y = withWorths(30, 30, 20, 20, 10, 10);
        y.pour(0, 40);
        blocksAre(y, 30, 10);
        FoamBlocks z = withWorths(25, 3, 11, 1, 50, 3, 48, 3);
        z.pour(0, 50);
        check.due("best(0, 50)", z.best(0, 50), 6);
        blocksAre(z, 25, 25);
        FoamBlocks one = withWorths(25, 3, 50, 6, 48, 6);
        one.pour(0, 50);
        blocksAre(one, 50);
    }

    private static void cutLongestSecond() {
        FoamBlocks x = withWorths(10, 10, 20, 20, 30, 30);
        x.pour(0, 55);
        blocksAre(x, 30, 20);
        FoamBlocks y = withWorths(10, 10, 20, 20, 25, 20, 30, 30);
        y.pour(0, 89);
        blocksAre(y, 30, 30, 25);
        FoamBlocks z = withWorths(40, 7, 12, 2, 6, 1, 13, 2);
        z.pour(0, 66);
        blocksAre(z, 40, 13, 13);
        FoamBlocks third = withWorths(5, 1, 6, 1, 40, 9, 7, 1);
        third.pour(0, 63);
        blocksAre(third, 40, 7, 6, 5, 5);
    }

    private static void cutOfNoWorth() {
        FoamBlocks x = withWorths(40, 9, 7, 0, 5, 0);
        x.pour(0, 59);
        blocksAre(x, 40, 7, 7, 5);
        FoamBlocks y = withWorths(10, 0, 25, 0);
        y.pour(0, 60);
        blocksAre(y, 25, 25, 10);
        FoamBlocks z = withWorths(30, 0, 10, 1);
        z.pour(0, 39);
        blocksAre(z, 10, 10, 10);
        FoamBlocks one = withWorths(5, 0);
        one.pour(0, 5);
        blocksAre(one, 5);
    }

    private static void cutLeaves() {
        FoamBlocks x = withWorths(10, 1);
        x.pour(0, 29);
        blocksAre(x, 10, 10);
        check.due("offcuts of 9", x.shred(), 18);
        FoamBlocks y = withWorths(10, 1);
        y.pour(0, 30);
        blocksAre(y, 10, 10, 10);
        check.due("offcuts of nothing", y.shred(), 0);
        FoamBlocks z = withWorths(10, 1);
        z.pour(0, 9);
        blocksAre(z);
        check.due("offcuts of all", z.shred(), 18);
    }

    private static void cutWithoutLengths() {
        FoamBlocks x = withKinds(1);
        pours(x, 0, 2000);
        check.due(x, "cut()", x.cut(), 0, 0);
        check.due("BLOCKS", x.count(5), 0);
        check.due("runs", x.count(2), 0);
        check.due("offcuts", x.shred(), 4000);
        x.size(60, 60);
        pours(x, 0, 2000);
        x.cut();
        check.due("the most offcuts of a run", x.shred(), 72000);
    }

    /** Each cut is rounded by itself. */
    private static void cutDownwards() {
        FoamBlocks x = withKinds(1);
        x.size(3, 3);
        x.pour(0, 11);
        x.cut();
        check.due("99 by 100", x.shred(), 0);
        x.pour(0, 22);
        x.cut();
        check.due("198 by 100", x.shred(), 1);
        x.pour(0, 11);
        x.cut();
        x.pour(0, 11);
        x.cut();
        check.due("99 by 100 twice", x.shred(), 0);
        x.size(10, 10);
        x.pour(0, 1);
        x.cut();
        check.due("100 by 100", x.shred(), 1);
    }

    private static void cutInOrder() {
        FoamBlocks x = withWorths(10, 10, 30, 30);
        x.pour(0, 70);
        check.due("cut()", x.cut(), 3);
        x.pour(0, 40);
        check.due("cut()", x.cut(), 2);
        int[] due = {30, 30, 10, 30, 10};
        for (int i = 0; i < 5; i++) {
            check.due("block(" + i + ", 2)", x.block(i, 2), due[i]);
            check.due("block(" + i + ", 3)", x.block(i, 3), i < 3 ? 0 : 1);
        }
    }

    private static void cutNow() {
        FoamBlocks x = withWorths(10, 1);
        x.pour(0, 10);
        x.pass(30);
        x.cut();
        check.due("CORE of one poured 30 HOURS ago", x.block(0, 4), 100);
        x.pass(3);
        check.due("3 HOURS later", x.block(0, 4), 97);
    }

    private static void cutWhenFull() {
        check.sentence("I: BLOCKS 200", BeltEdgesTest::mostBlocks);
        check.sentence("10: 3 (BLOCKS: nothing is cut)", BeltEdgesTest::nothingCut);
        check.sentence("10: no room is asked for no BLOCKS", BeltEdgesTest::noBlocksWhenFull);
    }

    /** Blocks of 5, 20 by 10. */
    private static FoamBlocks withBlocks(int many) {
        FoamBlocks x = withKinds(2);
        x.length(5);
        pours(x, 0, 5 * many);
        check.due("cut() to " + many, x.cut(), many);
        return x;
    }

    private static void mostBlocks() {
        FoamBlocks x = withBlocks(200);
        check.due("BLOCKS", x.count(5), 200);
        check.due("the last one's length", x.block(199, 2), 5);
        check.due("one more", x.block(200, 2), -1);
        x.pour(0, 5);
        check.due(x, "cut() to a 201st", x.cut(), -1, 3);
        FoamBlocks y = withKinds(1);
        y.length(5);
        pours(y, 0, 1005);
        check.due(y, "cut() to 201 at once", y.cut(), -1, 3);
        FoamBlocks z = withKinds(1);
        z.length(5);
        pours(z, 0, 2000);
        check.due(z, "cut() to 400 at once", z.cut(), -1, 3);
        check.due("BLOCKS", z.count(5), 0);
    }

    private static void nothingCut() {
        FoamBlocks x = withBlocks(199);
        x.pour(1, 13);
        check.due(x, "cut() to two", x.cut(), -1, 3);
        check.due("BLOCKS", x.count(5), 199);
        check.due("runs", x.count(2), 1);
        check.due("how long THE BELT is", x.count(3), 13);
        runIs(x, 0, 1, 13, 1);
        check.due("offcuts", x.shred(), 0);
        check.due("block(199, 0)", x.block(199, 0), -1);
        check.due(x, "cut() to two again", x.cut(), -1, 3);
        check.due(x, "a longer LENGTH", x.length(13), 1, 0);
        x.worth(1, 1, 1);
        check.due(x, "cut() to one", x.cut(), 1, 0);
        check.due("BLOCKS", x.count(5), 200);
    }

    private static void noBlocksWhenFull() {
        FoamBlocks x = withBlocks(200);
        x.pour(0, 4);
        x.pour(1, 4);
        check.due(x, "cut() of a run too short", x.cut(), 0, 0);
        check.due(x, "cut() of a mixed run", x.cut(), 0, 0);
        check.due(x, "cut() of the next", x.cut(), 0, 0);
        check.due("offcuts", x.shred(), 8 + 40 + 8);
        check.due(x, "cut() of an empty BELT", x.cut(), -1, 4);
    }
}
