/** Promises 1 to 6: a new object, kind, change, length, worth, size. */
public final class TellTest {
    private static final Check check = new Check();

    public static void main(String[] args) {
        newObject();
        kinds();
        changes();
        lengths();
        worths();
        sizes();
        check.end();
    }

    private static void newObject() {
        FoamBlocks x = new FoamBlocks();
        check.due("trouble() of a new object", x.trouble(), 0);
        for (int what = 0; what <= 9; what++) {
            check.due("count(" + what + ") of a new object", x.count(what), 0);
        }
        for (int p = 0; p < 24; p++) {
            check.due("place(" + p + ") of a new object", x.place(p), -2);
        }
        check.due("run(0, 0) of a new object", x.run(0, 0), -1);
        check.due("block(0, 0) of a new object", x.block(0, 0), -1);
        check.due("shred() of a new object", x.shred(), 0);
        check.due("led(0) of a new object", x.led(0), 0);
        check.due("lay() of a new object", x.lay(), 0);
        check.noneBy(x, 0, 0);
        check.due("pieces(20, 10) of a new object", x.pieces(20, 10), 1);
        check.due("pieces(1, 1) of a new object", x.pieces(1, 1), 200);
        check.due("NONE", FoamBlocks.NONE, -1);
    }

    private static void kinds() {
        FoamBlocks x = new FoamBlocks();
        check.due(x, "kind(39, 1)", x.kind(39, 1), -1, 2);
        check.due(x, "kind(181, 1)", x.kind(181, 1), -1, 2);
        check.due(x, "kind(40, 0)", x.kind(40, 0), -1, 2);
        check.due(x, "kind(40, 21)", x.kind(40, 21), -1, 2);
        check.due("count(0) after none", x.count(0), 0);
        check.due(x, "kind(40, 1)", x.kind(40, 1), 0, 0);
        check.due(x, "kind(180, 20)", x.kind(180, 20), 1, 0);
        check.due(x, "kind(180, 1)", x.kind(180, 1), 2, 0);
        check.due(x, "kind(40, 20)", x.kind(40, 20), 3, 0);
        check.due(x, "kind(100, 10)", x.kind(100, 10), 4, 0);
        check.due(x, "a sixth kind", x.kind(100, 10), -1, 3);
        check.due(x, "a sixth kind with a wrong number", x.kind(39, 10), -1, 2);
        check.due("count(0) of a full object", x.count(0), 5);
    }

    private static void changes() {
        FoamBlocks x = new FoamBlocks();
        check.due(x, "change(0, 1, 5) without kinds", x.change(0, 1, 5), false, 1);
        x.kind(100, 1);
        check.due(x, "change(0, 1, 5) with one kind", x.change(0, 1, 5), false, 1);
        check.due(x, "change(1, 0, 5) with one kind", x.change(1, 0, 5), false, 1);
        x.kind(100, 1);
        check.due(x, "change(0, 0, 5)", x.change(0, 0, 5), false, 1);
        check.due(x, "change(0, 0, 61)", x.change(0, 0, 61), false, 1);
        check.due(x, "change(-1, 0, 5)", x.change(-1, 0, 5), false, 1);
        check.due(x, "change(0, -1, 5)", x.change(0, -1, 5), false, 1);
        check.due(x, "change(0, 2, 61)", x.change(0, 2, 61), false, 1);
        check.due(x, "change(0, 1, -1)", x.change(0, 1, -1), false, 2);
        check.due(x, "change(0, 1, 61)", x.change(0, 1, 61), false, 2);
        check.due("20 until told", x.pour(0, 1) + x.pour(1, 1), 1 + 22);
        check.due(x, "change(0, 1, 60)", x.change(0, 1, 60), true, 0);
        check.due("the way back is 20 still", x.pour(0, 1), 43);
        check.due("60 there", x.pour(1, 1), 104);
        check.due(x, "change(1, 0, 0)", x.change(1, 0, 0), true, 0);
        check.due("nothing back", x.pour(0, 1), 105);
    }

    private static void lengths() {
        FoamBlocks x = new FoamBlocks();
        check.due(x, "length(4)", x.length(4), -1, 2);
        check.due(x, "length(81)", x.length(81), -1, 2);
        check.due(x, "length(5)", x.length(5), 0, 0);
        check.due(x, "length(5) again", x.length(5), -1, 4);
        check.due(x, "length(80)", x.length(80), 1, 0);
        check.due(x, "length(30)", x.length(30), 2, 0);
        check.due(x, "length(20)", x.length(20), 3, 0);
        check.due(x, "length(10)", x.length(10), 4, 0);
        check.due("count(1)", x.count(1), 5);
        check.due(x, "length(79)", x.length(79), 5, 0);
        check.due(x, "a seventh length", x.length(50), -1, 3);
        check.due(x, "one that is told, of a full object", x.length(79), -1, 4);
        check.due(x, "length(81) of a full object", x.length(81), -1, 2);
        check.due("count(1) of a full object", x.count(1), 6);
    }

    private static void worths() {
        FoamBlocks x = new FoamBlocks();
        check.due(x, "worth(0, 0, 1) of nothing", x.worth(0, 0, 1), false, 1);
        x.kind(100, 1);
        check.due(x, "worth(0, 0, 1) without lengths", x.worth(0, 0, 1), false, 1);
        x.length(10);
        x.length(7);
        check.due(x, "worth(0, 1, 1)", x.worth(0, 1, 1), false, 1);
        check.due(x, "worth(0, -1, 1)", x.worth(0, -1, 1), false, 1);
        check.due(x, "worth(-1, 0, 1)", x.worth(-1, 0, 1), false, 1);
        check.due(x, "worth(2, 0, 1000)", x.worth(2, 0, 1000), false, 1);
        check.due(x, "worth(0, 0, -1)", x.worth(0, 0, -1), false, 2);
        check.due(x, "worth(0, 0, 1000)", x.worth(0, 0, 1000), false, 2);
        check.due("no worth until told", x.best(0, 100), 0);
        check.due(x, "worth(1, 0, 999)", x.worth(1, 0, 999), true, 0);
        check.due("worth is told", x.best(0, 14), 1998);
        check.due(x, "worth(1, 0, 0)", x.worth(1, 0, 0), true, 0);
        check.due("worth is told anew", x.best(0, 14), 0);
        x.kind(100, 1);
        x.worth(0, 1, 3);
        check.due("worth is of a kind", x.best(0, 10), 0);
        check.due("worth is of that kind", x.best(1, 10), 3);
    }

    private static void sizes() {
        FoamBlocks x = new FoamBlocks();
        check.due(x, "size(0, 1)", x.size(0, 1), false, 2);
        check.due(x, "size(1, 0)", x.size(1, 0), false, 2);
        check.due(x, "size(61, 1)", x.size(61, 1), false, 2);
        check.due(x, "size(1, 61)", x.size(1, 61), false, 2);
        check.due("as at first", x.pieces(1, 1), 200);
        check.due(x, "size(60, 60)", x.size(60, 60), true, 0);
        check.due("the largest", x.pieces(1, 1), 3600);
        check.due(x, "size(1, 1)", x.size(1, 1), true, 0);
        check.due("the smallest", x.pieces(1, 1), 1);
        check.due(x, "size(30, 7)", x.size(30, 7), true, 0);
        x.kind(100, 1);
        x.pour(0, 10);
        check.due(x, "size with foam on the belt", x.size(30, 8), true, 0);
        x.cut();
        check.due(x, "size after a cut without blocks", x.size(30, 9), true, 0);
        check.due("offcuts of 30 by 8", x.shred(), 24);
        x.length(10);
        x.pour(0, 10);
        x.cut();
        check.due(x, "size with a block", x.size(1, 1), false, 4);
        check.due(x, "a wrong size with a block", x.size(0, 1), false, 2);
        check.due("the size stays", x.pieces(30, 9), 1);
        sizeWithoutBlocksLeft();
    }

    /** A block that is gone is still one of all the blocks. */
    private static void sizeWithoutBlocksLeft() {
        FoamBlocks x = new FoamBlocks();
        x.kind(40, 1);
        x.length(10);
        x.pour(0, 10);
        x.cut();
        x.lay();
        x.pass(24);
        x.order(0, 0, 1, 1, 1);
        check.due("fill(0)", x.fill(0), 1);
        check.due(x, "size when the only block is gone", x.size(5, 5), false, 4);
    }
}
