/** Promises 7 to 10: pour, run, best, cut. */
public final class BeltTest {
    private static final Check check = new Check();

    public static void main(String[] args) {
        pours();
        longestBelt();
        mostRuns();
        mostRunsWithMixed();
        runs();
        bests();
        cutsOfMostWorth();
        cutsOfAsMuchWorth();
        cutsOfNoWorth();
        cutsWithoutLengths();
        mostBlocks();
        offcutsDownwards();
        lotsBeginAnew();
        check.end();
    }

    private static FoamBlocks withKinds(int many) {
        FoamBlocks x = new FoamBlocks();
        for (int i = 0; i < many; i++) {
            x.kind(100, 1);
        }
        return x;
    }

    private static void pours() {
        FoamBlocks x = withKinds(2);
        check.due(x, "pour(2, 5)", x.pour(2, 5), -1, 1);
        check.due(x, "pour(-1, 0)", x.pour(-1, 0), -1, 1);
        check.due(x, "pour(0, 0)", x.pour(0, 0), -1, 2);
        check.due(x, "pour(0, 401)", x.pour(0, 401), -1, 2);
        check.due("nothing poured", x.count(3), 0);
        check.due(x, "pour(0, 1)", x.pour(0, 1), 1, 0);
        check.due(x, "pour(0, 400)", x.pour(0, 400), 401, 0);
        check.due("one run", x.count(2), 1);
        check.due("one lot", x.count(4), 1);
        check.due(x, "pour(1, 5)", x.pour(1, 5), 426, 0);
        check.due("three runs", x.count(2), 3);
        check.due("two lots", x.count(4), 2);
    }

    private static void longestBelt() {
        FoamBlocks x = withKinds(2);
        for (int i = 1; i <= 4; i++) {
            x.pour(0, 400);
        }
        check.due("1,979 long", x.pour(0, 379), 1979);
        check.due(x, "one too many, for the mixed foam", x.pour(1, 2), -1, 3);
        check.due(x, "too many", x.pour(0, 22), -1, 3);
        check.due("nothing is poured", x.count(3), 1979);
        check.due("no run is begun", x.count(2), 1);
        check.due("no lot is begun", x.count(4), 1);
        check.due("the run is as it was", x.run(0, 1), 1979);
        check.due(x, "as long as may be", x.pour(1, 1), 2000, 0);
        check.due(x, "full", x.pour(1, 1), -1, 3);
        check.due(x, "a wrong number on a full belt", x.pour(1, 0), -1, 2);
        check.due("cut", x.cut(), 0);
        check.due(x, "room again", x.pour(1, 400), 421, 0);
    }

    private static void mostRuns() {
        FoamBlocks x = withKinds(2);
        x.change(0, 1, 0);
        x.change(1, 0, 0);
        for (int i = 1; i <= 60; i++) {
            check.due(x, "run " + i, x.pour(i % 2, 1), i, 0);
        }
        check.due(x, "one run too many", x.pour(1, 1), -1, 3);
        check.due("60 runs", x.count(2), 60);
        check.due("60 long", x.count(3), 60);
        check.due("60 lots", x.count(4), 60);
        check.due(x, "more of the last run", x.pour(0, 7), 67, 0);
        x.cut();
        check.due("59 runs", x.count(2), 59);
        check.due(x, "the 60th again", x.pour(1, 1), 67, 0);
        check.due("its lot", x.run(59, 2), 60);
        check.due("the first run moved up", x.run(0, 2), 1);
    }

    private static void mostRunsWithMixed() {
        FoamBlocks x = withKinds(2);
        x.change(0, 1, 1);
        x.change(1, 0, 1);
        for (int i = 0; i < 30; i++) {
            x.pour(i % 2, 1);
        }
        check.due("59 runs", x.count(2), 59);
        check.due(x, "mixed foam and a run are one too many", x.pour(0, 1), -1, 3);
        x.change(1, 0, 0);
        check.due(x, "the run alone is not", x.pour(0, 1), 60, 0);
        check.due("60 runs", x.count(2), 60);
        check.due("31 lots", x.count(4), 31);
    }

    private static void runs() {
        FoamBlocks x = withKinds(3);
        x.change(0, 2, 7);
        x.pour(0, 3);
        x.pour(2, 4);
        x.pour(2, 5);
        int[][] due = {{0, 3, 0}, {-2, 7, -2}, {2, 9, 1}};
        for (int i = 0; i < 3; i++) {
            for (int what = 0; what < 3; what++) {
                check.due("run(" + i + ", " + what + ")", x.run(i, what), due[i][what]);
            }
            check.due("run(" + i + ", 3)", x.run(i, 3), -1);
            check.due("run(" + i + ", -1)", x.run(i, -1), -1);
        }
        check.due("run(3, 0)", x.run(3, 0), -1);
        check.due("run(-1, 0)", x.run(-1, 0), -1);
        check.due("run(60, 0)", x.run(60, 0), -1);
    }

    private static void bests() {
        FoamBlocks x = withKinds(1);
        check.due(x, "best(1, 5)", x.best(1, 5), -1, 1);
        check.due(x, "best(-1, 2001)", x.best(-1, 2001), -1, 1);
        check.due(x, "best(0, -1)", x.best(0, -1), -1, 2);
        check.due(x, "best(0, 2001)", x.best(0, 2001), -1, 2);
        check.due(x, "best(0, 2000) without lengths", x.best(0, 2000), 0, 0);
        x.length(7);
        x.length(5);
        x.worth(0, 0, 8);
        x.worth(1, 0, 5);
        check.due(x, "best(0, 0)", x.best(0, 0), 0, 0);
        check.due("best(0, 4)", x.best(0, 4), 0);
        check.due("best(0, 5)", x.best(0, 5), 5);
        check.due("best(0, 6)", x.best(0, 6), 5);
        check.due("best(0, 10)", x.best(0, 10), 10);
        check.due("best(0, 12)", x.best(0, 12), 13);
        check.due("best(0, 2000)", x.best(0, 2000), 285 * 8 + 5);
        x.worth(1, 0, 999);
        check.due("best(0, 2000) of 5", x.best(0, 2000), 400 * 999);
        check.due("the belt is left alone", x.count(2), 0);
    }

    private static void blocksAre(FoamBlocks x, int... tenths) {
        check.due("blocks", x.count(5), tenths.length);
        for (int i = 0; i < tenths.length; i++) {
            check.due("block(" + i + ", 2)", x.block(i, 2), tenths[i]);
        }
    }

    private static void cutsOfMostWorth() {
        FoamBlocks x = withKinds(2);
        check.due(x, "cut() of an empty belt", x.cut(), -1, 4);
        x.length(10);
        x.length(30);
        x.worth(0, 1, 5);
        x.worth(1, 1, 14);
        x.pour(1, 44);
        x.pour(0, 5);
        check.due(x, "cut()", x.cut(), 4, 0);
        blocksAre(x, 10, 10, 10, 10);
        check.due("offcuts of 4", x.shred(), 8);
        check.due(x, "cut() of mixed foam", x.cut(), 0, 0);
        check.due("offcuts of 20", x.shred(), 40);
        check.due(x, "cut() of a run too short", x.cut(), 0, 0);
        check.due("offcuts of 5", x.shred(), 10);
        check.due(x, "cut() of an empty belt again", x.cut(), -1, 4);
        check.due("its length", x.count(3), 0);
    }

    private static void cutsOfAsMuchWorth() {
        FoamBlocks x = withKinds(1);
        x.length(10);
        x.length(30);
        x.length(25);
        x.worth(0, 0, 10);
        x.worth(1, 0, 30);
        x.worth(2, 0, 20);
        x.pour(0, 79);
        check.due("cut() of as much worth", x.cut(), 3);
        blocksAre(x, 30, 30, 10);
        check.due("offcuts of 9", x.shred(), 18);
    }

    private static void cutsOfNoWorth() {
        FoamBlocks x = withKinds(1);
        x.length(12);
        x.length(40);
        x.length(6);
        x.worth(1, 0, 9);
        x.pour(0, 73);
        check.due("cut() with lengths of no worth behind", x.cut(), 4);
        blocksAre(x, 40, 12, 12, 6);
        check.due("offcuts of 3", x.shred(), 6);

        FoamBlocks y = withKinds(1);
        y.length(12);
        y.length(20);
        y.pour(0, 45);
        check.due("cut() of no worth at all", y.cut(), 2);
        blocksAre(y, 20, 20);
    }

    private static void cutsWithoutLengths() {
        FoamBlocks x = withKinds(1);
        x.pour(0, 400);
        check.due(x, "cut() without lengths", x.cut(), 0, 0);
        check.due("all of it is offcuts", x.shred(), 800);
        check.due("no blocks", x.count(5), 0);
    }

    private static void mostBlocks() {
        FoamBlocks x = withKinds(2);
        x.length(5);
        for (int i = 0; i < 3; i++) {
            x.pour(0, 335);
        }
        check.due(x, "cut() to 201 blocks", x.cut(), -1, 3);
        check.due("nothing is cut", x.count(5), 0);
        check.due("the run stays", x.run(0, 1), 1005);
        check.due("no offcuts", x.shred(), 0);

        FoamBlocks y = withKinds(2);
        y.length(5);
        y.pour(0, 400);
        y.pour(0, 400);
        y.pour(0, 199);
        y.pour(1, 5);
        check.due(y, "cut() to 199 blocks", y.cut(), 199, 0);
        check.due(y, "cut() of mixed foam", y.cut(), 0, 0);
        check.due(y, "cut() to the 200th", y.cut(), 1, 0);
        check.due("all blocks", y.count(5), 200);
        check.due("block(199, 3)", y.block(199, 3), 1);
        check.due("block(200, 3)", y.block(200, 3), -1);
        y.pour(0, 4);
        y.pour(1, 5);
        check.due(y, "cut() to none when full", y.cut(), 0, 0);
        check.due(y, "cut() of mixed foam when full", y.cut(), 0, 0);
        check.due(y, "cut() to one when full", y.cut(), -1, 3);
        check.due("the belt stays", y.count(3), 5);
    }

    private static void offcutsDownwards() {
        FoamBlocks x = withKinds(2);
        x.size(3, 11);
        x.change(0, 1, 10);
        x.pour(0, 10);
        x.pour(1, 7);
        x.cut();
        check.due("330 by 100", x.shred(), 3);
        check.due("none then", x.shred(), 0);
        x.cut();
        x.cut();
        check.due("330 by 100 and 231 by 100", x.shred(), 5);
    }

    private static void lotsBeginAnew() {
        FoamBlocks x = withKinds(2);
        x.length(5);
        x.pour(0, 5);
        x.cut();
        check.due("no change ahead on an empty belt", x.pour(1, 6), 6);
        check.due("a new lot", x.run(0, 2), 1);
        x.cut();
        check.due("poured on an empty belt", x.pour(1, 7), 7);
        check.due("a lot of its own", x.run(0, 2), 2);
        x.cut();
        for (int i = 0; i < 3; i++) {
            check.due("lot of block " + i, x.block(i, 3), i);
        }
    }
}
