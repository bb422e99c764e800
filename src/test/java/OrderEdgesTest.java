/** Promises 16 to 23: a test of its own for each sentence that names a boundary case. */
public final class OrderEdgesTest {
    private static final Check check = new Check();
    private static final int LEAST = Integer.MIN_VALUE;
    private static final int MOST = Integer.MAX_VALUE;

    public static void main(String[] args) {
        pieces();
        order();
        fill();
        filled();
        offcuts();
        by();
        led();
        shred();
        count();
        trouble();
        check.end();
    }

    /** One kind, not hot, and one length of 10. */
    private static FoamBlocks ready() {
        FoamBlocks x = new FoamBlocks();
        x.kind(50, 1);
        x.length(10);
        return x;
    }

    /** Blocks of 10 that have lain for 24 hours. */
    private static FoamBlocks withCured(int many) {
        FoamBlocks x = ready();
        moreCured(x, many);
        return x;
    }

    private static void moreCured(FoamBlocks x, int many) {
        x.pour(0, 10 * many);
        check.due("cut()", x.cut(), many);
        check.due("lay()", x.lay(), many);
        x.pass(24);
    }

    private static void filledBy(FoamBlocks x, int order, int... blocks) {
        check.due(x, "fill(" + order + ")", x.fill(order), blocks.length, 0);
        for (int i = 0; i < blocks.length; i++) {
            check.due("by(" + order + ", " + i + ")", x.by(order, i), blocks[i]);
            check.due("block(" + blocks[i] + ", 0)", x.block(blocks[i], 0), 2);
        }
        check.noneBy(x, order, blocks.length);
    }

    private static void pieces() {
        check.sentence("16: PIECES of w by h (1 .. 60 both)", OrderEdgesTest::pieceNumbers);
        check.sentence("IV: from an end: none if it is too small", OrderEdgesTest::noPieces);
        check.sentence("IV: (turned or not)", OrderEdgesTest::piecesTurned);
        check.sentence("IV: some turned, some not", OrderEdgesTest::piecesBothWays);
        check.sentence("IV: by cuts straight through", OrderEdgesTest::piecesStraight);
        check.sentence("IV: of what is cut, too", OrderEdgesTest::piecesAndSoOn);
        check.sentence("IV: as many as can be", OrderEdgesTest::mostPieces);
    }

    private static void pieceNumbers() {
        FoamBlocks x = new FoamBlocks();
        x.size(60, 60);
        for (int wrong : new int[] {LEAST, -1, 0, 61, MOST}) {
            check.due(x, "pieces(" + wrong + ", 1)", x.pieces(wrong, 1), -1, 2);
            check.due(x, "pieces(1, " + wrong + ")", x.pieces(1, wrong), -1, 2);
        }
        check.due(x, "pieces(1, 1)", x.pieces(1, 1), 3600, 0);
        check.due(x, "pieces(60, 1)", x.pieces(60, 1), 60, 0);
        check.due(x, "pieces(1, 60)", x.pieces(1, 60), 60, 0);
        check.due(x, "pieces(60, 60)", x.pieces(60, 60), 1, 0);
    }

    private static void noPieces() {
        FoamBlocks x = new FoamBlocks();
        check.due(x, "pieces(20, 10)", x.pieces(20, 10), 1, 0);
        check.due(x, "pieces(21, 10)", x.pieces(21, 10), 0, 0);
        check.due(x, "pieces(20, 11)", x.pieces(20, 11), 0, 0);
        check.due(x, "pieces(11, 11)", x.pieces(11, 11), 0, 0);
        check.due(x, "pieces(60, 60)", x.pieces(60, 60), 0, 0);
        x.size(1, 1);
        check.due(x, "pieces(1, 1) of 1 by 1", x.pieces(1, 1), 1, 0);
        check.due(x, "pieces(2, 1) of 1 by 1", x.pieces(2, 1), 0, 0);
        check.due(x, "pieces(1, 2) of 1 by 1", x.pieces(1, 2), 0, 0);
    }

    private static void piecesTurned() {
        FoamBlocks x = new FoamBlocks();
        check.due("pieces(10, 20)", x.pieces(10, 20), 1);
        check.due("pieces(3, 20)", x.pieces(3, 20), 3);
        check.due("pieces(20, 3)", x.pieces(20, 3), 3);
        x.size(10, 20);
        check.due("pieces(20, 3) of 10 by 20", x.pieces(20, 3), 3);
        check.due("pieces(3, 20) of 10 by 20", x.pieces(3, 20), 3);
    }

    private static void piecesBothWays() {
        FoamBlocks x = new FoamBlocks();
        check.due("six of 7 by 3, and two turned beside them", x.pieces(7, 3), 8);
        check.due("told the other way", x.pieces(3, 7), 8);
        x.size(7, 7);
        check.due("three of 5 by 2, and one turned beside them", x.pieces(5, 2), 4);
        x.size(5, 4);
        check.due("one of 4 by 3 turned, and none beside it", x.pieces(4, 3), 1);
        x.size(7, 4);
        check.due("one of 4 by 3 and one turned", x.pieces(4, 3), 2);
    }

    /** A wheel of four round the middle can't be cut straight through. */
    private static void piecesStraight() {
        FoamBlocks x = new FoamBlocks();
        x.size(5, 5);
        check.due("pieces(3, 2) of 5 by 5", x.pieces(3, 2), 3);
        x.size(11, 11);
        check.due("pieces(7, 4) of 11 by 11", x.pieces(7, 4), 3);
        x.size(10, 10);
        check.due("pieces(6, 4) of 10 by 10", x.pieces(6, 4), 3);
    }

    private static void piecesAndSoOn() {
        FoamBlocks x = new FoamBlocks();
        x.size(17, 13);
        check.due("pieces(5, 3) of 17 by 13", x.pieces(5, 3), byEveryCut(17, 13, 5, 3));
        x.size(60, 59);
        check.due("pieces(11, 7) of 60 by 59", x.pieces(11, 7), byEveryCut(60, 59, 11, 7));
        x.size(13, 11);
        check.due("pieces(4, 3) of 13 by 11", x.pieces(4, 3), byEveryCut(13, 11, 4, 3));
    }

    private static int byEveryCut(int wide, int high, int w, int h) {
        return PlainModel.allCuts(wide, high, w, h);
    }

    private static void mostPieces() {
        FoamBlocks x = new FoamBlocks();
        x.size(60, 60);
        check.due("pieces(2, 1)", x.pieces(2, 1), 1800);
        check.due("pieces(31, 30)", x.pieces(31, 30), 2);
        check.due("pieces(30, 30)", x.pieces(30, 30), 4);
        check.due("pieces(31, 31)", x.pieces(31, 31), 1);
        check.due("60 of 59 by 1, and one turned beside them", x.pieces(59, 1), 61);
        x.size(59, 60);
        check.due("pieces(60, 1) of 59 by 60", x.pieces(60, 1), 59);
        x.size(15, 15);
        check.due("pieces(2, 1) of 15 by 15 leave 1", x.pieces(2, 1), 112);
        x.size(7, 15);
        check.due("pieces(3, 2) of 7 by 15 leave 3", x.pieces(3, 2), 17);
    }

    private static void order() {
        check.sentence("I: ORDERS 40", OrderEdgesTest::mostOrders);
        check.sentence("IV: so many (1 .. 500) PIECES", OrderEdgesTest::orderMany);
        check.sentence("17: 2: w by h", OrderEdgesTest::orderSides);
        check.sentence("17: 1 (KIND, LENGTH)", OrderEdgesTest::orderOfNone);
        check.sentence("17: NONE: 1; 2; 3", OrderEdgesTest::orderReasons);
        check.sentence("17: a refused ORDER is none", OrderEdgesTest::refusedOrder);
    }

    private static void mostOrders() {
        FoamBlocks x = ready();
        for (int i = 0; i < 40; i++) {
            check.due(x, "ORDER " + i, x.order(0, 0, 1, 1, 1), i, 0);
        }
        check.due(x, "a 41st ORDER", x.order(0, 0, 1, 1, 1), -1, 3);
        check.due("ORDERS", x.count(7), 40);
        moreCured(x, 1);
        filledBy(x, 39, 0);
        check.due(x, "a 41st when one is FILLED", x.order(0, 0, 1, 1, 1), -1, 3);
        check.due(x, "fill(40)", x.fill(40), -1, 1);
    }

    private static void orderMany() {
        FoamBlocks x = ready();
        for (int wrong : new int[] {LEAST, -1, 0, 501, MOST}) {
            check.due(x, "an ORDER of " + wrong, x.order(0, 0, 1, 1, wrong), -1, 2);
        }
        check.due(x, "an ORDER of 1", x.order(0, 0, 1, 1, 1), 0, 0);
        check.due(x, "an ORDER of 500", x.order(0, 0, 1, 1, 500), 1, 0);
        moreCured(x, 3);
        filledBy(x, 1, 0, 1, 2);
        check.due("PIECES", x.led(0), 500);
    }

    private static void orderSides() {
        FoamBlocks x = ready();
        for (int wrong : new int[] {LEAST, -1, 0, 61, MOST}) {
            check.due(x, "of " + wrong + " by 1", x.order(0, 0, wrong, 1, 1), -1, 2);
            check.due(x, "of 1 by " + wrong, x.order(0, 0, 1, wrong, 1), -1, 2);
        }
        check.due(x, "of 1 by 1", x.order(0, 0, 1, 1, 1), 0, 0);
        check.due(x, "of 60 by 1", x.order(0, 0, 60, 1, 1), 1, 0);
        check.due(x, "of 1 by 60", x.order(0, 0, 1, 60, 1), 2, 0);
        check.due(x, "of 60 by 60", x.order(0, 0, 60, 60, 1), 3, 0);
    }

    private static void orderOfNone() {
        FoamBlocks x = ready();
        for (int none : new int[] {LEAST, -2, -1, 1, 5, 6, 10, MOST}) {
            check.due(x, "of KIND " + none, x.order(none, 0, 1, 1, 1), -1, 1);
            check.due(x, "of LENGTH " + none, x.order(0, none, 1, 1, 1), -1, 1);
        }
        x.kind(50, 1);
        check.due(x, "of KIND 1", x.order(1, 0, 1, 1, 1), 0, 0);
        check.due(x, "of LENGTH 1", x.order(1, 1, 1, 1, 1), -1, 1);
        x.length(20);
        check.due(x, "of LENGTH 1", x.order(1, 1, 1, 1, 1), 1, 0);
    }

    private static void orderReasons() {
        FoamBlocks x = ready();
        for (int i = 0; i < 40; i++) {
            x.order(0, 0, 1, 1, 1);
        }
        check.due(x, "all three, by KIND", x.order(1, 0, 0, 1, 1), -1, 1);
        check.due(x, "all three, by LENGTH", x.order(0, 1, 1, 1, 501), -1, 1);
        check.due(x, "of 0 by 1, when full", x.order(0, 0, 0, 1, 1), -1, 2);
        check.due(x, "of 1 by 61, when full", x.order(0, 0, 1, 61, 1), -1, 2);
        check.due(x, "of none, when full", x.order(0, 0, 1, 1, 0), -1, 2);
        check.due(x, "when full", x.order(0, 0, 1, 1, 1), -1, 3);
    }

    private static void refusedOrder() {
        FoamBlocks x = ready();
        x.order(1, 0, 1, 1, 1);
        x.order(0, 0, 1, 1, 0);
        check.due("ORDERS", x.count(7), 0);
        check.due(x, "fill(0)", x.fill(0), -1, 1);
        check.due("the next number", x.order(0, 0, 1, 1, 1), 0);
    }

    private static void fill() {
        check.sentence("18: NONE: 1", OrderEdgesTest::fillOfNone);
        check.sentence("18: 4 (it is)", OrderEdgesTest::fillTwice);
        check.sentence("18: 5, an end gives no PIECES", OrderEdgesTest::fillTooLarge);
        check.sentence("18: 5, no BLOCKS", OrderEdgesTest::fillWithoutBlocks);
        check.sentence("IV: until there are enough", OrderEdgesTest::fillEnough);
        check.sentence("IV: if there aren't, none is taken", OrderEdgesTest::fillNotEnough);
        check.sentence("18: one refused may be FILLED later", OrderEdgesTest::fillLater);
        check.sentence("18: by all that lie in PLACES", OrderEdgesTest::fillByAll);
    }

    private static void fillOfNone() {
        FoamBlocks x = withCured(1);
        check.due(x, "fill(0) of no ORDERS", x.fill(0), -1, 1);
        x.order(0, 0, 1, 1, 1);
        for (int none : new int[] {LEAST, -2, -1, 1, 39, 40, MOST}) {
            check.due(x, "fill(" + none + ")", x.fill(none), -1, 1);
        }
        filledBy(x, 0, 0);
    }

    private static void fillTwice() {
        FoamBlocks x = withCured(3);
        x.order(0, 0, 20, 10, 1);
        filledBy(x, 0, 0);
        check.due(x, "fill(0) again", x.fill(0), -1, 4);
        check.due("ORDERS that are FILLED", x.count(8), 1);
        check.due("PLACES taken", x.count(6), 2);
        check.due("PIECES", x.led(0), 1);
        x.order(0, 0, 20, 10, 2);
        filledBy(x, 1, 1, 2);
        check.due(x, "fill(0) when there aren't enough", x.fill(0), -1, 4);
    }

    private static void fillTooLarge() {
        FoamBlocks x = withCured(2);
        x.order(0, 0, 21, 1, 1);
        x.order(0, 0, 11, 11, 1);
        check.due(x, "fill(0)", x.fill(0), -1, 5);
        check.due(x, "fill(1)", x.fill(1), -1, 5);
        check.due("PLACES taken", x.count(6), 2);
        check.noneBy(x, 0, 0);
    }

    private static void fillWithoutBlocks() {
        FoamBlocks x = ready();
        x.order(0, 0, 1, 1, 1);
        check.due(x, "fill(0)", x.fill(0), -1, 5);
        x.pour(0, 100);
        check.due(x, "fill(0) of foam on THE BELT", x.fill(0), -1, 5);
        check.due("how long THE BELT is", x.count(3), 100);
    }

    private static void fillEnough() {
        FoamBlocks x = withCured(6);
        check.due("pieces(10, 5)", x.pieces(10, 5), 4);
        x.order(0, 0, 10, 5, 4);
        x.order(0, 0, 10, 5, 5);
        x.order(0, 0, 10, 5, 12);
        filledBy(x, 0, 0);
        filledBy(x, 1, 1, 2);
        filledBy(x, 2, 3, 4, 5);
    }

    private static void fillNotEnough() {
        FoamBlocks x = withCured(3);
        x.order(0, 0, 10, 5, 13);
        check.due(x, "fill(0)", x.fill(0), -1, 5);
        check.due("PLACES taken", x.count(6), 3);
        for (int i = 0; i < 3; i++) {
            check.due("block(" + i + ", 0)", x.block(i, 0), 1);
        }
        check.due("ORDERS that are FILLED", x.count(8), 0);
        check.due("PIECES", x.led(0), 0);
        check.due("offcuts", x.shred(), 0);
        check.noneBy(x, 0, 0);
    }

    private static void fillLater() {
        FoamBlocks x = withCured(1);
        x.order(0, 0, 20, 10, 2);
        check.due(x, "fill(0)", x.fill(0), -1, 5);
        check.due(x, "fill(0) again", x.fill(0), -1, 5);
        moreCured(x, 1);
        filledBy(x, 0, 0, 1);
    }

    /** The most there can be: 200 blocks, 24 of them cured, all for one order. */
    private static void fillByAll() {
        FoamBlocks x = new FoamBlocks();
        x.kind(50, 1);
        x.length(5);
        x.pour(0, 400);
        x.pour(0, 400);
        x.pour(0, 200);
        check.due("cut()", x.cut(), 200);
        check.due("lay()", x.lay(), 24);
        x.pass(24);
        x.lift(3);
        x.order(0, 0, 10, 10, 49);
        x.order(0, 0, 10, 10, 48);
        check.due(x, "one PIECE too few", x.fill(0), -1, 5);
        check.due(x, "fill(1)", x.fill(1), 24, 0);
        for (int i = 0; i < 24; i++) {
            check.due("by(1, " + i + ")", x.by(1, i), i);
        }
        check.noneBy(x, 1, 24);
        check.due("PIECES", x.led(0), 48);
        check.due("PLACES taken", x.count(6), 0);
        check.due("lay() of the next 24", x.lay(), 24);
        check.due("place(0)", x.place(0), 24);
        check.due("block(199, 0)", x.block(199, 0), 0);
    }

    private static void filled() {
        check.sentence("IV: by CURED BLOCKS", OrderEdgesTest::filledByCured);
        check.sentence("IV: of that KIND", OrderEdgesTest::filledOfItsKind);
        check.sentence("IV: and LENGTH", OrderEdgesTest::filledOfItsLength);
        check.sentence("IV: the longest in PLACES first", OrderEdgesTest::filledLongestFirst);
        check.sentence("IV: (of as long ones the least number)", OrderEdgesTest::filledLeastFirst);
        check.sentence("IV: BLOCKS that are taken are gone", OrderEdgesTest::takenAreGone);
    }

    private static void filledByCured() {
        FoamBlocks x = ready();
        x.kind(90, 1);
        x.pour(0, 20);
        x.cut();
        x.lay();
        x.lift(1);
        x.order(0, 0, 20, 10, 2);
        x.order(1, 0, 20, 10, 1);
        x.pass(24);
        check.due(x, "one that lay nowhere", x.fill(0), -1, 5);
        x.pour(1, 10);
        x.cut();
        x.lay();
        x.pass(23);
        check.due(x, "23 HOURS", x.fill(0), -1, 5);
        x.pass(1);
        filledBy(x, 0, 0, 1);
        x.pass(5);
        check.due(x, "HOT", x.fill(1), -1, 5);
        x.pass(1);
        filledBy(x, 1, 2);
    }

    private static void filledOfItsKind() {
        FoamBlocks x = ready();
        x.kind(50, 1);
        x.pour(0, 10);
        x.cut();
        x.pour(1, 10);
        x.cut();
        x.lay();
        x.pass(24);
        x.order(1, 0, 20, 10, 2);
        x.order(1, 0, 20, 10, 1);
        check.due(x, "two of KIND 1", x.fill(0), -1, 5);
        filledBy(x, 1, 1);
        check.due("block(0, 0)", x.block(0, 0), 1);
    }

    private static void filledOfItsLength() {
        FoamBlocks x = ready();
        x.length(20);
        x.pour(0, 30);
        check.due("20 and 10", x.cut(), 2);
        x.lay();
        x.pass(24);
        x.order(0, 0, 20, 10, 2);
        x.order(0, 0, 20, 10, 1);
        check.due(x, "two of LENGTH 0", x.fill(0), -1, 5);
        filledBy(x, 1, 1);
        check.due("block(0, 0)", x.block(0, 0), 1);
    }

    /** In places, not since they were cut: 3 lies longer than those that were cut with it. */
    private static void filledLongestFirst() {
        FoamBlocks x = withCured(4);
        x.lift(0);
        x.lift(1);
        x.lift(2);
        x.pass(2);
        x.lay();
        x.lift(1);
        x.lift(0);
        x.pass(1);
        x.lay();
        x.lift(0);
        x.pass(1);
        x.order(0, 0, 20, 10, 4);
        filledBy(x, 0, 3, 2, 1, 0);
    }

    private static void filledLeastFirst() {
        FoamBlocks x = withCured(4);
        x.lift(0);
        x.lift(3);
        x.pass(7);
        x.lay();
        x.lift(1);
        x.lift(2);
        x.pass(7);
        x.order(0, 0, 20, 10, 3);
        x.order(0, 0, 20, 10, 1);
        filledBy(x, 0, 0, 1, 2);
        filledBy(x, 1, 3);
    }

    private static void takenAreGone() {
        FoamBlocks x = withCured(2);
        x.order(0, 0, 20, 10, 1);
        x.order(0, 0, 20, 10, 2);
        filledBy(x, 0, 0);
        check.due("place(0)", x.place(0), -2);
        check.due("PLACES taken", x.count(6), 1);
        check.due("BLOCKS (all)", x.count(5), 2);
        check.due("lay()", x.lay(), 0);
        check.due("block(0, 5)", x.block(0, 5), 0);
        check.due(x, "fill(1)", x.fill(1), -1, 5);
    }

    private static void offcuts() {
        check.sentence("IV: WIDE times HIGH less w times h times the PIECES",
            OrderEdgesTest::offcutsOfAnOrder);
        check.sentence("IV: of the last BLOCK just those .. still needs",
            OrderEdgesTest::offcutsOfTheLast);
        check.sentence("IV: times its length", OrderEdgesTest::offcutsTimesLength);
        check.sentence("IV: of each BLOCK .. by 100, downwards", OrderEdgesTest::offcutsDownwards);
    }

    private static void offcutsOfAnOrder() {
        FoamBlocks x = withCured(4);
        x.order(0, 0, 7, 3, 8);
        check.due("pieces(7, 3)", x.pieces(7, 3), 8);
        filledBy(x, 0, 0);
        check.due("(200 - 168) * 10 by 100", x.shred(), 3);
        x.order(0, 0, 20, 10, 1);
        filledBy(x, 1, 1);
        check.due("nothing is left", x.shred(), 0);
        x.order(0, 0, 1, 1, 1);
        filledBy(x, 2, 2);
        check.due("199 * 10 by 100", x.shred(), 19);
    }

    private static void offcutsOfTheLast() {
        FoamBlocks x = withCured(3);
        x.order(0, 0, 10, 10, 3);
        filledBy(x, 0, 0, 1);
        check.due("0 and 100 * 10 by 100", x.shred(), 10);
        check.due("PIECES", x.led(0), 3);
    }

    private static void offcutsTimesLength() {
        FoamBlocks x = new FoamBlocks();
        x.kind(50, 1);
        x.length(80);
        x.length(5);
        x.size(60, 60);
        x.pour(0, 85);
        check.due("80 and 5", x.cut(), 2);
        x.lay();
        x.pass(24);
        x.order(0, 0, 1, 1, 1);
        x.order(0, 1, 1, 1, 1);
        filledBy(x, 0, 0);
        check.due("3,599 * 80 by 100", x.shred(), 2879);
        filledBy(x, 1, 1);
        check.due("3,599 * 5 by 100", x.shred(), 179);
    }

    private static void offcutsDownwards() {
        FoamBlocks x = new FoamBlocks();
        x.kind(50, 1);
        x.length(9);
        x.size(4, 3);
        x.pour(0, 27);
        check.due("cut()", x.cut(), 3);
        x.lay();
        x.pass(24);
        x.order(0, 0, 1, 1, 1);
        x.order(0, 0, 4, 1, 4);
        filledBy(x, 0, 0);
        check.due("99 by 100", x.shred(), 0);
        filledBy(x, 1, 1, 2);
        check.due("0 by 100 and 72 by 100", x.shred(), 0);
        FoamBlocks y = new FoamBlocks();
        y.kind(50, 1);
        y.length(9);
        y.size(5, 4);
        y.pour(0, 18);
        y.cut();
        y.lay();
        y.pass(24);
        y.order(0, 0, 3, 3, 2);
        filledBy(y, 0, 0, 1);
        check.due("99 by 100 twice", y.shred(), 0);
    }

    private static void by() {
        check.sentence("19: The i-th BLOCK by which", OrderEdgesTest::byTheOrder);
        check.sentence("19: none such: an ORDER", OrderEdgesTest::byNoOrder);
        check.sentence("19: none such: the i-th BLOCK", OrderEdgesTest::byNoBlock);
        check.sentence("19: none such: not FILLED", OrderEdgesTest::byNotFilled);
    }

    private static void byTheOrder() {
        FoamBlocks x = withCured(3);
        x.order(0, 0, 20, 10, 1);
        x.order(0, 0, 20, 10, 2);
        filledBy(x, 1, 0, 1);
        filledBy(x, 0, 2);
        check.due("by(1, 0)", x.by(1, 0), 0);
        check.due("by(1, 1)", x.by(1, 1), 1);
        check.due("by(0, 0)", x.by(0, 0), 2);
    }

    private static void byNoOrder() {
        FoamBlocks x = withCured(1);
        check.noneBy(x, 0, 0);
        x.order(0, 0, 20, 10, 1);
        filledBy(x, 0, 0);
        for (int none : new int[] {LEAST, -2, -1, 1, 39, 40, MOST}) {
            check.noneBy(x, none, 0);
        }
    }

    private static void byNoBlock() {
        FoamBlocks x = withCured(4);
        x.order(0, 0, 20, 10, 2);
        x.order(0, 0, 20, 10, 2);
        filledBy(x, 0, 0, 1);
        filledBy(x, 1, 2, 3);
        for (int none : new int[] {LEAST, -2, -1, 2, 3, 200, MOST}) {
            check.noneBy(x, 0, none);
            check.noneBy(x, 1, none);
        }
    }

    private static void byNotFilled() {
        FoamBlocks x = withCured(1);
        x.order(0, 0, 20, 10, 2);
        check.noneBy(x, 0, 0);
        x.fill(0);
        check.noneBy(x, 0, 0);
        x.order(0, 0, 20, 10, 1);
        filledBy(x, 1, 0);
        check.noneBy(x, 0, 0);
    }

    private static void led() {
        check.sentence("20: ORDERS that are FILLED", OrderEdgesTest::ledOfFilled);
        check.sentence("20: came of a LOT", OrderEdgesTest::ledOfLots);
        check.sentence("20: a LOT that gave none, or is none", OrderEdgesTest::ledOfNone);
    }

    private static void ledOfFilled() {
        FoamBlocks x = withCured(3);
        x.order(0, 0, 10, 10, 3);
        check.due("before it is FILLED", x.led(0), 0);
        x.order(0, 0, 10, 10, 7);
        x.fill(1);
        check.due("when there aren't enough", x.led(0), 0);
        filledBy(x, 0, 0, 1);
        check.due("as it is FILLED", x.led(0), 3);
        x.fill(0);
        check.due("when it is FILLED already", x.led(0), 3);
        x.order(0, 0, 1, 1, 200);
        filledBy(x, 2, 2);
        check.due("of two ORDERS", x.led(0), 203);
    }

    private static void ledOfLots() {
        FoamBlocks x = ready();
        for (int i = 0; i < 3; i++) {
            x.pour(0, 10);
            x.cut();
        }
        x.lay();
        x.pass(24);
        x.order(0, 0, 5, 5, 19);
        filledBy(x, 0, 0, 1, 2);
        check.due("led(0)", x.led(0), 8);
        check.due("led(1)", x.led(1), 8);
        check.due("led(2), just those still needed", x.led(2), 3);
    }

    private static void ledOfNone() {
        FoamBlocks x = withCured(1);
        x.order(0, 0, 20, 10, 1);
        filledBy(x, 0, 0);
        for (int none : new int[] {LEAST, -2, -1, 1, 200, MOST}) {
            check.due("led(" + none + ")", x.led(none), 0);
        }
        x.pour(0, 10);
        check.due("led(1) of one on THE BELT", x.led(1), 0);
    }

    private static void shred() {
        check.sentence("IV: SHREDDED: all there is is told", OrderEdgesTest::shredAll);
        check.sentence("IV: and there is none then", OrderEdgesTest::shredTwice);
    }

    private static void shredAll() {
        FoamBlocks x = ready();
        check.due("at first", x.shred(), 0);
        x.kind(50, 1);
        x.pour(0, 14);
        x.pour(1, 3);
        x.cut();
        x.cut();
        x.cut();
        x.lay();
        x.pass(24);
        x.order(0, 0, 10, 10, 1);
        filledBy(x, 0, 0);
        check.due("8, 40 and 6 of cuts, 10 of an ORDER", x.shred(), 8 + 40 + 6 + 10);
    }

    private static void shredTwice() {
        FoamBlocks x = ready();
        x.pour(0, 9);
        x.cut();
        check.due("shred()", x.shred(), 18);
        check.due("shred() again", x.shred(), 0);
        x.pour(0, 5);
        x.cut();
        check.due("those since", x.shred(), 10);
    }

    private static void count() {
        check.sentence("22: 0 .. 9", OrderEdgesTest::counts);
        check.sentence("22: NONE for others", OrderEdgesTest::countOfOthers);
        check.sentence("22: 5 BLOCKS (all)", OrderEdgesTest::countOfGone);
    }

    private static void counts() {
        FoamBlocks x = ready();
        x.kind(50, 1);
        x.pour(0, 40);
        x.pour(1, 7);
        x.pour(0, 3);
        x.cut();
        x.lay();
        x.lift(3);
        x.pass(25);
        x.order(0, 0, 1, 1, 1);
        x.order(0, 0, 1, 1, 1);
        x.length(20);
        x.length(30);
        x.order(0, 0, 1, 1, 1);
        x.order(0, 0, 1, 1, 1);
        x.fill(1);
        x.fill(2);
        int[] due = {2, 3, 4, 50, 3, 4, 1, 4, 2, 25};
        for (int what = 0; what < 10; what++) {
            check.due("count(" + what + ")", x.count(what), due[what]);
        }
    }

    private static void countOfOthers() {
        FoamBlocks x = withCured(1);
        for (int none : new int[] {LEAST, -2, -1, 10, 11, MOST}) {
            check.due("count(" + none + ")", x.count(none), -1);
        }
    }

    private static void countOfGone() {
        FoamBlocks x = withCured(2);
        x.order(0, 0, 20, 10, 2);
        filledBy(x, 0, 0, 1);
        check.due("BLOCKS when all are gone", x.count(5), 2);
        check.due("PLACES taken", x.count(6), 0);
        x.pour(0, 10);
        x.cut();
        check.due("the next one's KIND", x.block(2, 1), 0);
        check.due("BLOCKS", x.count(5), 3);
    }

    private static void trouble() {
        check.sentence("V: 0 it wasn't", OrderEdgesTest::noTrouble);
        check.sentence("V: 1 there is none such; 2 a number; 3 no room; 4 not so; 5 not enough",
            OrderEdgesTest::troubles);
        check.sentence("V: the latest call that may be refused", OrderEdgesTest::latestTrouble);
    }

    /** Each call that may be refused, and isn't, after one that was. */
    private static void noTrouble() {
        FoamBlocks x = new FoamBlocks();
        check.due("trouble() at first", x.trouble(), 0);
        for (int call = 0; call < 14; call++) {
            x.pass(0);
            check.due("trouble() of a refused call", x.trouble(), 2);
            boolean may = oneThatMay(x, call);
            check.due("call " + call + " is not refused", may, true);
            check.due("trouble() after call " + call, x.trouble(), 0);
        }
    }

    private static boolean oneThatMay(FoamBlocks x, int call) {
        return switch (call) {
            case 0 -> x.kind(50, 1) == 0;
            case 1 -> x.kind(50, 1) == 1;
            case 2 -> x.change(0, 1, 5);
            case 3 -> x.length(10) == 0;
            case 4 -> x.worth(0, 0, 5);
            case 5 -> x.size(10, 10);
            case 6 -> x.pour(0, 10) == 10;
            case 7 -> x.best(0, 10) == 5;
            case 8 -> x.cut() == 1 && x.lay() == 1;
            case 9 -> x.pieces(1, 1) == 100;
            case 10 -> x.pass(24) == 24;
            case 11 -> x.lift(0);
            case 12 -> x.order(0, 0, 1, 1, 1) == 0;
            default -> x.fill(0) == 1;
        };
    }

    private static void troubles() {
        FoamBlocks x = ready();
        check.due(x, "none such", x.fill(0), -1, 1);
        check.due(x, "a number", x.pass(0), -1, 2);
        for (int i = 1; i < 5; i++) {
            x.kind(50, 1);
        }
        check.due(x, "no room", x.kind(50, 1), -1, 3);
        check.due(x, "not so", x.cut(), -1, 4);
        x.order(0, 0, 1, 1, 1);
        check.due(x, "not enough", x.fill(0), -1, 5);
    }

    /** The calls for which the document names no reason leave what was there. */
    private static void latestTrouble() {
        FoamBlocks x = withCured(1);
        for (int last = 0; last < 2; last++) {
            x.pass(last);
            int due = last == 0 ? 2 : 0;
            x.run(0, 0);
            x.block(9, 9);
            x.block(0, 0);
            x.place(99);
            x.place(0);
            x.lay();
            x.led(99);
            x.shred();
            x.count(99);
            x.count(0);
            check.noneBy(x, 0, 0);
            check.due("trouble()", x.trouble(), due);
            check.due("trouble() again", x.trouble(), due);
        }
    }
}
