/** Promises 11 to 15: block, lay, place, lift, pass. */
public final class BlocksTest {
    private static final Check check = new Check();

    public static void main(String[] args) {
        blocks();
        cores();
        hotBlocksApart();
        blocksThatAreNotHot();
        hotOnEitherSide();
        backInTheOnlyFreePlaces();
        noPlaceLeft();
        placesAtTheEdge();
        lifts();
        passes();
        cured();
        curedIsNotHot();
        gone();
        check.end();
    }

    /** So many blocks of 10 of each kind, cut at hour 0, kinds one behind the other. */
    private static FoamBlocks withBlocks(int heat, int cool, int many) {
        FoamBlocks x = new FoamBlocks();
        x.length(10);
        x.kind(heat, cool);
        more(x, 0, many);
        return x;
    }

    private static void more(FoamBlocks x, int kind, int many) {
        x.pour(kind, 10 * many);
        check.due("cut()", x.cut(), many);
    }

    private static void blockIs(FoamBlocks x, int i, int... due) {
        for (int what = 0; what < 8; what++) {
            check.due("block(" + i + ", " + what + ")", x.block(i, what), due[what]);
        }
    }

    private static void blocks() {
        FoamBlocks x = withBlocks(100, 5, 2);
        x.kind(90, 3);
        x.length(25);
        x.worth(1, 1, 9);
        more(x, 1, 2);
        blockIs(x, 0, 0, 0, 10, 0, 100, 0, -1, 0);
        blockIs(x, 2, 0, 1, 10, 1, 90, 0, -1, 0);
        x.lay();
        x.pass(4);
        blockIs(x, 1, 1, 0, 10, 0, 80, 0, 2, 4);
        blockIs(x, 3, 1, 1, 10, 1, 78, 0, 6, 4);
        check.due("block(0, 8)", x.block(0, 8), -1);
        check.due("block(0, -1)", x.block(0, -1), -1);
        check.due("block(4, 0)", x.block(4, 0), -1);
        check.due("block(-1, 0)", x.block(-1, 0), -1);
        check.due("block(200, 0)", x.block(200, 0), -1);
    }

    private static void cores() {
        FoamBlocks x = withBlocks(180, 20, 1);
        check.due("as it is cut", x.block(0, 4), 180);
        x.pass(7);
        check.due("after 7 hours", x.block(0, 4), 40);
        x.pass(1);
        check.due("after 8 hours", x.block(0, 4), 20);
        x.pass(1);
        check.due("20 at least", x.block(0, 4), 20);
        more(x, 0, 1);
        check.due("one that was cut later", x.block(1, 4), 180);
        x.pass(2);
        check.due("it cools since it was cut", x.block(1, 4), 140);
        for (int i = 0; i < 29; i++) {
            x.pass(100);
        }
        check.due("20 at last", x.block(1, 4), 20);
    }

    private static void placesAre(FoamBlocks x, int... due) {
        int taken = 0;
        for (int p = 0; p < 24; p++) {
            int want = p < due.length ? due[p] : -2;
            check.due("place(" + p + ")", x.place(p), want);
            if (want != -2) {
                taken++;
                check.due("block(" + want + ", 6)", x.block(want, 6), p);
                check.due("block(" + want + ", 0)", x.block(want, 0), 1);
            }
        }
        check.due("count(6)", x.count(6), taken);
    }

    private static void hotBlocksApart() {
        FoamBlocks x = withBlocks(61, 1, 3);
        check.due("lay()", x.lay(), 3);
        placesAre(x, 0, -2, 1, -2, 2);
        FoamBlocks y = withBlocks(60, 1, 3);
        check.due("lay() of 60, which is not hot", y.lay(), 3);
        placesAre(y, 0, 1, 2);
        FoamBlocks z = withBlocks(62, 1, 3);
        z.lay();
        z.pass(2);
        z.kind(180, 1);
        more(z, 1, 2);
        check.due("hot ones beside those that are hot no more", z.lay(), 2);
        placesAre(z, 0, 3, 1, 4, 2);
    }

    private static void blocksThatAreNotHot() {
        FoamBlocks x = withBlocks(180, 1, 2);
        x.kind(40, 1);
        more(x, 1, 1);
        check.due("lay()", x.lay(), 3);
        placesAre(x, 0, -2, 1, -2, 2);
        x.lift(2);
        more(x, 0, 1);
        check.due("lay() by number", x.lay(), 2);
        placesAre(x, 0, -2, 1, -2, 2, 3);
        x.lift(0);
        check.due("lay() of the first one again", x.lay(), 1);
        placesAre(x, 0, -2, 1, -2, 2, 3);
    }

    /** A hot neighbour behind counts as much as one ahead. */
    private static void hotOnEitherSide() {
        FoamBlocks x = withBlocks(40, 1, 1);
        x.kind(180, 1);
        more(x, 1, 2);
        check.due("lay()", x.lay(), 3);
        placesAre(x, 0, 1, -2, 2);
        x.lift(0);
        check.due("lay() of one that has a hot neighbour at place 0 now", x.lay(), 1);
        placesAre(x, -2, 1, -2, 2, -2, 0);
        x.lift(2);
        check.due("lay() of a hot one", x.lay(), 1);
        placesAre(x, -2, 1, -2, 2, -2, 0);
    }

    private static void backInTheOnlyFreePlaces() {
        FoamBlocks x = withBlocks(180, 1, 13);
        x.lay();
        x.kind(40, 1);
        more(x, 1, 12);
        check.due("lay() of those that are not hot", x.lay(), 12);
        x.lift(0);
        x.lift(24);
        check.due("place(0) is free", x.place(0), -2);
        check.due("place(1) is free", x.place(1), -2);
        check.due("lay() of the two again", x.lay(), 2);
        check.due("place(0)", x.place(0), 0);
        check.due("place(1)", x.place(1), 24);
        FoamBlocks y = withBlocks(40, 1, 24);
        y.kind(180, 1);
        y.lay();
        y.lift(1);
        y.lift(0);
        more(y, 1, 1);
        check.due("lay() of 0 and 1", y.lay(), 2);
        y.lift(23);
        y.lift(22);
        y.lift(21);
        y.pass(1);
        check.due("lay() by number", y.lay(), 3);
        check.due("place(21)", y.place(21), 21);
    }

    /** Hot ones in each second place leave no place without a hot neighbour. */
    private static void noPlaceLeft() {
        FoamBlocks x = withBlocks(180, 1, 12);
        x.lay();
        x.kind(40, 1);
        more(x, 1, 14);
        check.due("lay() of 14 that are not hot in 12 places", x.lay(), 12);
        for (int i = 0; i < 12; i++) {
            check.due("place(" + (23 - 2 * i) + ")", x.place(23 - 2 * i), 12 + i);
        }
        check.due("no place is left", x.count(6), 24);
        check.due("block(24, 0)", x.block(24, 0), 0);
        check.due("block(25, 6)", x.block(25, 6), -1);
        check.due("lay() again", x.lay(), 0);
    }

    private static void placesAtTheEdge() {
        FoamBlocks x = withBlocks(40, 1, 24);
        check.due("lay() of 24", x.lay(), 24);
        check.due("place(23)", x.place(23), 23);
        check.due("place(24)", x.place(24), -1);
        check.due("place(-1)", x.place(-1), -1);
        x.lift(0);
        x.lift(23);
        x.kind(180, 1);
        more(x, 1, 3);
        check.due("lay() at both ends, by number", x.lay(), 2);
        check.due("place(0)", x.place(0), 0);
        check.due("place(23)", x.place(23), 23);
        x.lift(23);
        x.lift(22);
        x.lift(0);
        x.lift(1);
        x.lift(2);
        check.due("lay()", x.lay(), 5);
        check.due("place(2)", x.place(2), 2);
        check.due("place(22)", x.place(22), 22);
    }

    private static void lifts() {
        FoamBlocks x = withBlocks(100, 1, 2);
        check.due(x, "lift(0) of one that lies nowhere", x.lift(0), false, 4);
        x.lay();
        check.due(x, "lift(2)", x.lift(2), false, 1);
        check.due(x, "lift(-1)", x.lift(-1), false, 1);
        check.due(x, "lift(200)", x.lift(200), false, 1);
        check.due(x, "lift(1)", x.lift(1), true, 0);
        check.due("block(1, 0)", x.block(1, 0), 0);
        check.due("block(1, 6)", x.block(1, 6), -1);
        check.due("place(2)", x.place(2), -2);
        check.due("count(6)", x.count(6), 1);
        check.due("place(0)", x.place(0), 0);
        check.due(x, "lift(1) again", x.lift(1), false, 4);
    }

    private static void passes() {
        FoamBlocks x = new FoamBlocks();
        check.due(x, "pass(0)", x.pass(0), -1, 2);
        check.due(x, "pass(-1)", x.pass(-1), -1, 2);
        check.due(x, "pass(101)", x.pass(101), -1, 2);
        check.due(x, "pass(1)", x.pass(1), 1, 0);
        for (int i = 1; i <= 29; i++) {
            check.due(x, "pass(100)", x.pass(100), 1 + 100 * i, 0);
        }
        check.due(x, "pass(100) beyond 3,000", x.pass(100), -1, 2);
        check.due("count(9)", x.count(9), 2901);
        check.due(x, "pass(99)", x.pass(99), 3000, 0);
        check.due(x, "pass(1) beyond 3,000", x.pass(1), -1, 2);
        check.due("count(9)", x.count(9), 3000);
    }

    private static void cured() {
        FoamBlocks x = withBlocks(50, 1, 2);
        x.lay();
        x.pass(20);
        x.lift(0);
        x.pass(50);
        check.due("hours of one that was lifted", x.block(0, 7), 20);
        check.due("hours of one that lies", x.block(1, 7), 70);
        check.due("cured", x.block(1, 5), 1);
        x.lay();
        x.pass(3);
        check.due("23 hours in all", x.block(0, 5), 0);
        x.pass(1);
        check.due("24 hours in all", x.block(0, 5), 1);
        x.lift(0);
        check.due("it may lie nowhere since", x.block(0, 5), 1);
        check.due("24 hours stay", x.block(0, 7), 24);
    }

    private static void curedIsNotHot() {
        FoamBlocks x = withBlocks(90, 1, 1);
        x.lay();
        x.pass(29);
        check.due("core of 61", x.block(0, 4), 61);
        check.due("hot", x.block(0, 5), 0);
        x.pass(1);
        check.due("cured", x.block(0, 5), 1);
    }

    private static void gone() {
        FoamBlocks x = withBlocks(90, 1, 2);
        x.lay();
        x.pass(32);
        x.order(0, 0, 20, 10, 1);
        check.due("fill(0)", x.fill(0), 1);
        blockIs(x, 0, 2, 0, 10, 0, 58, 0, -1, 32);
        check.due("place(0)", x.place(0), -2);
        check.due(x, "lift(0) of one that is gone", x.lift(0), false, 4);
        check.due("lay() of one that is gone", x.lay(), 0);
        x.pass(3);
        blockIs(x, 0, 2, 0, 10, 0, 55, 0, -1, 32);
        check.due("blocks, all", x.count(5), 2);
        check.due("places taken", x.count(6), 1);
    }
}
