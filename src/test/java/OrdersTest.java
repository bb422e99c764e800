/** Promises 16 to 23: pieces, order, fill, by, led, shred, count, trouble. */
public final class OrdersTest {
    private static final Check check = new Check();

    public static void main(String[] args) {
        pieces();
        piecesThatMeetStraightCutsOnly();
        orders();
        fills();
        longestInPlacesFirst();
        onlyBlocksOfIt();
        fillsWithTheSizeThatIs();
        offcutsDownwards();
        offcutsOfLongBlocks();
        filledByOne();
        ledToLots();
        mostOrders();
        allBlocksTaken();
        counts();
        troubles();
        check.end();
    }

    private static void pieces() {
        FoamBlocks x = new FoamBlocks();
        check.due(x, "pieces(0, 1)", x.pieces(0, 1), -1, 2);
        check.due(x, "pieces(1, 0)", x.pieces(1, 0), -1, 2);
        check.due(x, "pieces(61, 1)", x.pieces(61, 1), -1, 2);
        check.due(x, "pieces(1, 61)", x.pieces(1, 61), -1, 2);
        check.due(x, "pieces(20, 10)", x.pieces(20, 10), 1, 0);
        check.due("turned", x.pieces(10, 20), 1);
        check.due("too long by one", x.pieces(21, 10), 0);
        check.due("too high by one", x.pieces(20, 11), 0);
        check.due(x, "pieces(60, 60)", x.pieces(60, 60), 0, 0);
        check.due("some turned", x.pieces(10, 3), 6);
        x.size(60, 60);
        check.due("pieces(60, 60) of the largest", x.pieces(60, 60), 1);
        check.due("pieces(1, 1) of the largest", x.pieces(1, 1), 3600);
        check.due("pieces(7, 8) of the largest", x.pieces(7, 8), 60);
    }

    /** A wheel of four round a hole needs more than cuts straight through. */
    private static void piecesThatMeetStraightCutsOnly() {
        FoamBlocks x = new FoamBlocks();
        x.size(5, 5);
        check.due("four of 3 by 2 would need a wheel", x.pieces(3, 2), 3);
        x.size(11, 11);
        check.due("pieces(7, 4)", x.pieces(7, 4), 3);
        x.size(19, 19);
        check.due("pieces(12, 7)", x.pieces(12, 7), 3);
    }

    private static void orders() {
        FoamBlocks x = new FoamBlocks();
        check.due(x, "order of no kind", x.order(0, 0, 1, 1, 1), -1, 1);
        x.kind(50, 1);
        check.due(x, "order of no length", x.order(0, 0, 1, 1, 1), -1, 1);
        x.length(10);
        check.due(x, "order(1, 0, ..)", x.order(1, 0, 0, 1, 1), -1, 1);
        check.due(x, "order(-1, 0, ..)", x.order(-1, 0, 1, 1, 1), -1, 1);
        check.due(x, "order(0, 1, ..)", x.order(0, 1, 1, 1, 0), -1, 1);
        check.due(x, "order(0, -1, ..)", x.order(0, -1, 1, 1, 1), -1, 1);
        check.due(x, "order(0, 0, 0, 1, 1)", x.order(0, 0, 0, 1, 1), -1, 2);
        check.due(x, "order(0, 0, 1, 0, 1)", x.order(0, 0, 1, 0, 1), -1, 2);
        check.due(x, "order(0, 0, 61, 1, 1)", x.order(0, 0, 61, 1, 1), -1, 2);
        check.due(x, "order(0, 0, 1, 61, 1)", x.order(0, 0, 1, 61, 1), -1, 2);
        check.due(x, "order(0, 0, 1, 1, 0)", x.order(0, 0, 1, 1, 0), -1, 2);
        check.due(x, "order(0, 0, 1, 1, 501)", x.order(0, 0, 1, 1, 501), -1, 2);
        check.due("no orders", x.count(7), 0);
        check.due(x, "order(0, 0, 60, 60, 500)", x.order(0, 0, 60, 60, 500), 0, 0);
        check.due(x, "order(0, 0, 1, 1, 1)", x.order(0, 0, 1, 1, 1), 1, 0);
        check.due("two orders", x.count(7), 2);
        check.due("none filled", x.count(8), 0);
    }

    private static void mostOrders() {
        FoamBlocks x = new FoamBlocks();
        x.kind(50, 1);
        x.length(10);
        for (int i = 0; i < 40; i++) {
            check.due(x, "order " + i, x.order(0, 0, 1, 1, 1), i, 0);
        }
        check.due(x, "one order too many", x.order(0, 0, 1, 1, 1), -1, 3);
        check.due(x, "a wrong one when full", x.order(0, 0, 1, 1, 0), -1, 2);
        check.due(x, "one of no kind when full", x.order(1, 0, 1, 1, 1), -1, 1);
        check.due("40 orders", x.count(7), 40);
        check.due(x, "fill(39)", x.fill(39), -1, 5);
        check.due(x, "fill(40)", x.fill(40), -1, 1);
    }

    /** Blocks of 10, not hot, that have lain for 24 hours. */
    private static FoamBlocks withCured(int many) {
        FoamBlocks x = new FoamBlocks();
        x.kind(50, 1);
        x.length(10);
        x.pour(0, 10 * many);
        check.due("cut()", x.cut(), many);
        check.due("lay()", x.lay(), many);
        x.pass(24);
        return x;
    }

    private static void fills() {
        FoamBlocks x = withCured(5);
        check.due(x, "fill(0) of no orders", x.fill(0), -1, 1);
        check.due(x, "fill(-1)", x.fill(-1), -1, 1);
        x.order(0, 0, 10, 5, 21);
        x.order(0, 0, 10, 5, 20);
        check.due("four a block", x.pieces(10, 5), 4);
        check.due(x, "fill(0), one piece too few", x.fill(0), -1, 5);
        check.due("none is taken", x.count(6), 5);
        check.due("none is filled", x.count(8), 0);
        check.due("no offcuts", x.shred(), 0);
        check.due("none led", x.led(0), 0);
        check.noneBy(x, 0, 0);
        check.due(x, "fill(1), just enough", x.fill(1), 5, 0);
        check.due("all are taken", x.count(6), 0);
        check.due("one is filled", x.count(8), 1);
        check.due("none is left of them", x.shred(), 0);
        check.due("all led", x.led(0), 20);
        check.due(x, "fill(1) again", x.fill(1), -1, 4);
        check.due(x, "fill(0) again", x.fill(0), -1, 5);
        for (int i = 0; i < 5; i++) {
            check.due("by(1, " + i + ")", x.by(1, i), i);
        }
        check.noneBy(x, 1, 5);
        check.noneBy(x, 1, -1);
        check.noneBy(x, 2, 0);
        check.noneBy(x, -1, 0);
        check.noneBy(x, 0, 0);
    }

    private static void longestInPlacesFirst() {
        FoamBlocks x = withCured(6);
        x.lift(0);
        x.lift(3);
        x.pass(5);
        x.lay();
        x.lift(1);
        x.pass(1);
        x.lift(4);
        x.pass(1);
        x.order(0, 0, 20, 10, 3);
        x.order(0, 0, 20, 10, 3);
        x.order(0, 0, 20, 10, 1);
        check.due("fill(0)", x.fill(0), 3);
        int[] first = {2, 5, 4};
        for (int i = 0; i < 3; i++) {
            check.due("by(0, " + i + ")", x.by(0, i), first[i]);
        }
        check.due("fill(1)", x.fill(1), 3);
        int[] second = {1, 0, 3};
        for (int i = 0; i < 3; i++) {
            check.due("by(1, " + i + ")", x.by(1, i), second[i]);
        }
        check.due("by(0, 0) still", x.by(0, 0), 2);
        check.due(x, "fill(2)", x.fill(2), -1, 5);
    }

    private static void onlyBlocksOfIt() {
        FoamBlocks x = new FoamBlocks();
        x.kind(50, 1);
        x.kind(80, 1);
        x.length(10);
        x.length(30);
        x.pour(0, 40);
        x.pour(1, 40);
        check.due("30 and 10 of kind 0", x.cut(), 2);
        x.cut();
        check.due("30 and 10 of kind 1", x.cut(), 2);
        x.lay();
        x.order(1, 1, 20, 10, 1);
        x.order(1, 1, 20, 10, 2);
        x.order(0, 0, 20, 10, 1);
        x.pass(19);
        check.due("hot", x.fill(0), -1);
        x.pass(4);
        check.due(x, "23 hours", x.fill(0), -1, 5);
        x.pass(1);
        check.due(x, "others don't count", x.fill(1), -1, 5);
        check.due(x, "fill(0)", x.fill(0), 1, 0);
        check.due("by(0, 0)", x.by(0, 0), 2);
        check.due("fill(2)", x.fill(2), 1);
        check.due("by(2, 0)", x.by(2, 0), 1);
        check.due("led(0)", x.led(0), 1);
        check.due("led(1)", x.led(1), 1);
    }

    private static void fillsWithTheSizeThatIs() {
        FoamBlocks x = new FoamBlocks();
        x.kind(50, 1);
        x.length(10);
        x.order(0, 0, 30, 30, 2);
        x.size(60, 30);
        x.pour(0, 10);
        x.cut();
        x.lay();
        x.pass(24);
        check.due("fill(0)", x.fill(0), 1);
        check.due("led(0)", x.led(0), 2);
        check.due("shred()", x.shred(), 0);
    }

    private static void offcutsDownwards() {
        FoamBlocks x = new FoamBlocks();
        x.kind(50, 1);
        x.length(7);
        x.size(13, 9);
        x.pour(0, 21);
        check.due("cut()", x.cut(), 3);
        x.lay();
        x.pass(24);
        x.order(0, 0, 5, 4, 7);
        check.due("pieces(5, 4)", x.pieces(5, 4), 5);
        check.due("fill(0)", x.fill(0), 2);
        check.due("17 * 7 by 100 and 77 * 7 by 100", x.shred(), 1 + 5);
        check.due("led(0)", x.led(0), 7);
        check.due("shred() again", x.shred(), 0);
    }

    private static void offcutsOfLongBlocks() {
        FoamBlocks x = new FoamBlocks();
        x.kind(50, 1);
        x.length(80);
        x.size(60, 60);
        x.pour(0, 80);
        x.cut();
        x.lay();
        x.pass(24);
        x.order(0, 0, 1, 1, 1);
        check.due("fill(0)", x.fill(0), 1);
        check.due("3,599 * 80 by 100", x.shred(), 2879);
    }

    private static void filledByOne() {
        FoamBlocks x = withCured(2);
        x.order(0, 0, 20, 10, 1);
        check.due(x, "fill(0)", x.fill(0), 1, 0);
        check.due(x, "fill(0) again", x.fill(0), -1, 4);
        check.due("by(0, 0)", x.by(0, 0), 0);
        check.noneBy(x, 0, 1);
        check.due("one is left", x.count(6), 1);
    }

    /** All 200 blocks that there can be go to one order after another. */
    private static void allBlocksTaken() {
        FoamBlocks x = new FoamBlocks();
        x.kind(50, 1);
        x.length(5);
        for (int i = 0; i < 10; i++) {
            x.pour(0, 100);
        }
        check.due("cut()", x.cut(), 200);
        for (int i = 0; i < 9; i++) {
            int laid = Math.min(24, 200 - 24 * i);
            check.due("lay()", x.lay(), laid);
            x.pass(24);
            x.order(0, 0, 20, 10, laid);
            check.due(x, "fill(" + i + ")", x.fill(i), laid, 0);
        }
        for (int i = 0; i < 9; i++) {
            check.due("by(" + i + ", 0)", x.by(i, 0), 24 * i);
        }
        check.due("by(8, 7)", x.by(8, 7), 199);
        check.noneBy(x, 8, 8);
        check.due("led(0)", x.led(0), 200);
        check.due("no place is taken", x.count(6), 0);
        x.pour(0, 5);
        check.due(x, "those that are gone count too", x.cut(), -1, 3);
    }

    private static void ledToLots() {
        FoamBlocks x = new FoamBlocks();
        x.kind(50, 1);
        x.length(10);
        for (int i = 0; i < 3; i++) {
            x.pour(0, 20);
            x.cut();
        }
        x.lay();
        x.pass(24);
        x.order(0, 0, 10, 10, 7);
        x.order(0, 0, 20, 10, 1);
        check.due("fill(0)", x.fill(0), 4);
        check.due("led(0)", x.led(0), 4);
        check.due("led(1)", x.led(1), 3);
        check.due("led(2)", x.led(2), 0);
        check.due("fill(1)", x.fill(1), 1);
        check.due("led(2) of two orders", x.led(2), 1);
        check.due("led(3)", x.led(3), 0);
        check.due("led(-1)", x.led(-1), 0);
        check.due("led(-2)", x.led(-2), 0);
    }

    private static void counts() {
        FoamBlocks x = new FoamBlocks();
        x.kind(50, 1);
        x.kind(50, 2);
        x.kind(50, 3);
        x.length(10);
        x.length(20);
        x.worth(0, 0, 1);
        x.pour(0, 50);
        x.pour(1, 5);
        x.pour(2, 6);
        x.cut();
        x.lay();
        x.lift(4);
        x.pass(30);
        x.order(0, 0, 1, 1, 1);
        x.order(0, 0, 1, 1, 1);
        x.order(0, 0, 1, 1, 1);
        x.fill(1);
        x.fill(2);
        int[] due = {3, 2, 4, 51, 3, 5, 2, 3, 2, 30};
        for (int what = 0; what < 10; what++) {
            check.due("count(" + what + ")", x.count(what), due[what]);
        }
        check.due("count(10)", x.count(10), -1);
        check.due("count(-1)", x.count(-1), -1);
    }

    /** Calls that can't be refused leave the trouble of the latest one that can. */
    private static void troubles() {
        FoamBlocks x = withCured(1);
        check.due("trouble()", x.trouble(), 0);
        x.fill(0);
        x.run(9, 9);
        x.block(0, 0);
        x.block(9, 9);
        x.place(99);
        x.place(0);
        x.lay();
        x.led(0);
        x.shred();
        x.count(0);
        x.count(99);
        check.noneBy(x, 9, 9);
        check.due("trouble() stays 1", x.trouble(), 1);
        check.due("trouble() tells it again", x.trouble(), 1);
        check.due(x, "pieces(1, 1)", x.pieces(1, 1), 200, 0);
        x.run(9, 9);
        x.block(9, 9);
        x.place(99);
        x.count(99);
        check.noneBy(x, 9, 9);
        check.due("trouble() stays 0", x.trouble(), 0);
    }
}
