/** Promises 11 to 15: a test of its own for each sentence that names a boundary case. */
public final class BlockEdgesTest {
    private static final Check check = new Check();
    private static final int LEAST = Integer.MIN_VALUE;
    private static final int MOST = Integer.MAX_VALUE;

    public static void main(String[] args) {
        block();
        core();
        laid();
        laidNotHot();
        place();
        lift();
        pass();
        cured();
        check.end();
    }

    /** So many blocks of 10, cut at hour 0. */
    private static FoamBlocks withBlocks(int heat, int cool, int many) {
        FoamBlocks x = new FoamBlocks();
        x.length(10);
        x.kind(heat, cool);
        more(x, 0, many);
        return x;
    }

    private static void more(FoamBlocks x, int kind, int many) {
        x.pour(kind, 10 * many);
        check.due("cut()", x.cut(), many);
    }

    /** The block in each place, those behind the last one named being free. */
    private static void placesAre(FoamBlocks x, int... due) {
        for (int p = 0; p < 24; p++) {
            int want = p < due.length ? due[p] : -2;
            check.due("place(" + p + ")", x.place(p), want);
            if (want >= 0) {
                check.due("block(" + want + ", 6)", x.block(want, 6), p);
                check.due("block(" + want + ", 0)", x.block(want, 0), 1);
            }
        }
    }

    private static void liesNowhere(FoamBlocks x, int block) {
        check.due("block(" + block + ", 0)", x.block(block, 0), 0);
        check.due("block(" + block + ", 6)", x.block(block, 6), -1);
    }

    private static void block() {
        check.sentence("11: Of a BLOCK; NONE", BlockEdgesTest::blockNumbers);
        check.sentence("11: what 0 .. 7; NONE", BlockEdgesTest::blockWhats);
        check.sentence("11: 0 it lies nowhere, 1 in a PLACE, 2 gone", BlockEdgesTest::states);
        check.sentence("11: 6 PLACE (NONE)", BlockEdgesTest::placeOfABlock);
        check.sentence("11: 7 HOURS in PLACES", BlockEdgesTest::hoursInPlaces);
    }

    private static void blockNumbers() {
        FoamBlocks x = new FoamBlocks();
        check.due("block(0, 0) at first", x.block(0, 0), -1);
        FoamBlocks y = withBlocks(100, 1, 2);
        for (int none : new int[] {LEAST, -2, -1, 2, 199, 200, MOST}) {
            for (int what = 0; what < 8; what++) {
                check.due("block(" + none + ", " + what + ")", y.block(none, what), -1);
            }
        }
        check.due("block(1, 2)", y.block(1, 2), 10);
    }

    private static void blockWhats() {
        FoamBlocks x = withBlocks(100, 1, 2);
        x.kind(90, 2);
        more(x, 1, 1);
        x.lay();
        x.pass(30);
        int[] due = {1, 1, 10, 1, 30, 1, 4, 30};
        for (int what = 0; what < 8; what++) {
            check.due("block(2, " + what + ")", x.block(2, what), due[what]);
        }
        for (int none : new int[] {LEAST, -2, -1, 8, 9, MOST}) {
            check.due("block(2, " + none + ")", x.block(2, none), -1);
        }
    }

    private static void states() {
        FoamBlocks x = withBlocks(50, 1, 1);
        check.due("as it is cut", x.block(0, 0), 0);
        x.lay();
        check.due("as it is laid", x.block(0, 0), 1);
        x.lift(0);
        check.due("as it is lifted", x.block(0, 0), 0);
        x.lay();
        x.pass(24);
        x.order(0, 0, 1, 1, 1);
        x.fill(0);
        check.due("as it is taken", x.block(0, 0), 2);
    }

    private static void placeOfABlock() {
        FoamBlocks x = withBlocks(50, 1, 1);
        check.due("as it is cut", x.block(0, 6), -1);
        x.lay();
        check.due("as it is laid", x.block(0, 6), 0);
        x.lift(0);
        check.due("as it is lifted", x.block(0, 6), -1);
        x.lay();
        x.pass(24);
        x.order(0, 0, 1, 1, 1);
        x.fill(0);
        check.due("as it is taken", x.block(0, 6), -1);
    }

    private static void hoursInPlaces() {
        FoamBlocks x = withBlocks(50, 1, 1);
        x.pass(3);
        check.due("none while it lies nowhere", x.block(0, 7), 0);
        x.lay();
        check.due("none as it is laid", x.block(0, 7), 0);
        x.pass(100);
        check.due("100 of them", x.block(0, 7), 100);
        x.lift(0);
        x.pass(5);
        check.due("no more as it is lifted", x.block(0, 7), 100);
        x.lay();
        x.pass(1);
        check.due("in all", x.block(0, 7), 101);
        x.order(0, 0, 1, 1, 1);
        x.fill(0);
        x.pass(9);
        check.due("no more as it is gone", x.block(0, 7), 101);
    }

    private static void core() {
        check.sentence("II: HEAT .. that its core has as it is cut", BlockEdgesTest::coreAsCut);
        check.sentence("III: HOURS since it was cut", BlockEdgesTest::coreSince);
        check.sentence("III: CORE .. 20 at least", BlockEdgesTest::coreAtLeast);
        check.sentence("III: HOT: above 60", BlockEdgesTest::hotAbove);
    }

    private static void coreAsCut() {
        FoamBlocks x = withBlocks(180, 20, 1);
        x.kind(40, 1);
        more(x, 1, 1);
        check.due("block(0, 4)", x.block(0, 4), 180);
        check.due("block(1, 4)", x.block(1, 4), 40);
    }

    /** In a place or nowhere, a core cools as fast. */
    private static void coreSince() {
        FoamBlocks x = withBlocks(150, 3, 2);
        x.pass(2);
        x.lay();
        x.lift(1);
        more(x, 0, 1);
        x.pass(4);
        check.due("in a PLACE", x.block(0, 4), 132);
        check.due("nowhere", x.block(1, 4), 132);
        check.due("one that was cut later", x.block(2, 4), 138);
    }

    private static void coreAtLeast() {
        FoamBlocks x = withBlocks(180, 16, 1);
        x.kind(40, 20);
        x.kind(40, 7);
        more(x, 1, 1);
        more(x, 2, 1);
        x.pass(1);
        check.due("just 20", x.block(1, 4), 20);
        x.pass(1);
        check.due("not below", x.block(1, 4), 20);
        check.due("26", x.block(2, 4), 26);
        x.pass(1);
        check.due("not 19", x.block(2, 4), 20);
        x.pass(6);
        check.due("36", x.block(0, 4), 36);
        x.pass(1);
        check.due("20", x.block(0, 4), 20);
        for (int i = 0; i < 29; i++) {
            x.pass(100);
        }
        check.due("20 still", x.block(0, 4), 20);
    }

    private static void hotAbove() {
        FoamBlocks x = withBlocks(61, 1, 2);
        x.lay();
        placesAre(x, 0, -2, 1);
        FoamBlocks y = withBlocks(60, 1, 2);
        y.lay();
        placesAre(y, 0, 1);
        FoamBlocks z = withBlocks(61, 1, 2);
        z.pass(1);
        z.lay();
        placesAre(z, 0, 1);
    }

    private static void laid() {
        check.sentence("III: LAID: each .. that lies nowhere", BlockEdgesTest::laidNowhere);
        check.sentence("III: by number", BlockEdgesTest::laidByNumber);
        check.sentence("III: the first PLACE that is free", BlockEdgesTest::laidFirstFree);
        check.sentence("III: of whose two neighbours none has a HOT", BlockEdgesTest::laidApart);
        check.sentence("III: (one at the ends)", BlockEdgesTest::laidAtTheEnds);
        check.sentence("III: (one at the ends), PLACE 23", BlockEdgesTest::laidBehindTheFirst);
        check.sentence("III: a neighbour that is HOT no more", BlockEdgesTest::laidByCooled);
        check.sentence("III: stays where it is (nowhere)", BlockEdgesTest::laidNoPlace);
        check.sentence("I: PLACES 24", BlockEdgesTest::mostPlaces);
        check.sentence("12: how many were now", BlockEdgesTest::laidNow);
    }

    private static void laidNowhere() {
        FoamBlocks x = withBlocks(50, 1, 3);
        x.lay();
        x.lift(0);
        x.pass(1);
        check.due("lay()", x.lay(), 1);
        placesAre(x, 0, 1, 2);
        x.pass(24);
        x.order(0, 0, 20, 10, 1);
        x.fill(0);
        check.due("by(0, 0)", x.by(0, 0), 1);
        check.due("lay() of one that is gone", x.lay(), 0);
        placesAre(x, 0, -2, 2);
    }

    private static void laidByNumber() {
        FoamBlocks x = withBlocks(50, 1, 4);
        x.lay();
        x.lift(3);
        x.lift(1);
        x.lift(2);
        x.lift(0);
        check.due("lay()", x.lay(), 4);
        placesAre(x, 0, 1, 2, 3);
        x.lift(0);
        x.lift(1);
        more(x, 0, 1);
        check.due("lay()", x.lay(), 3);
        placesAre(x, 0, 1, 2, 3, 4);
    }

    private static void laidFirstFree() {
        FoamBlocks x = withBlocks(50, 1, 6);
        x.lay();
        x.lift(1);
        x.lift(4);
        x.pass(24);
        x.order(0, 0, 20, 10, 1);
        x.fill(0);
        check.due("by(0, 0)", x.by(0, 0), 0);
        check.due("lay()", x.lay(), 2);
        placesAre(x, 1, 4, 2, 3, -2, 5);
    }

    private static void laidApart() {
        FoamBlocks x = withBlocks(180, 1, 3);
        x.lay();
        placesAre(x, 0, -2, 1, -2, 2);
        x.lift(1);
        check.due("between two that are HOT", x.lay(), 1);
        placesAre(x, 0, -2, 1, -2, 2);
        FoamBlocks y = withBlocks(50, 1, 1);
        y.kind(180, 1);
        more(y, 1, 2);
        check.due("beside one that isn't HOT", y.lay(), 3);
        placesAre(y, 0, 1, -2, 2);
        y.lift(0);
        y.pass(1);
        more(y, 1, 1);
        check.due("0 has one behind it", y.lay(), 2);
        placesAre(y, -2, 1, -2, 2, -2, 0, 3);
    }

    private static void laidAtTheEnds() {
        FoamBlocks x = withBlocks(180, 1, 1);
        check.due("PLACE 0 has none ahead", x.lay(), 1);
        placesAre(x, 0);
        FoamBlocks y = withBlocks(50, 1, 23);
        y.lay();
        y.kind(180, 1);
        more(y, 1, 1);
        check.due("PLACE 23 has none behind", y.lay(), 1);
        check.due("place(23)", y.place(23), 23);
        y.lift(0);
        y.lift(5);
        check.due("PLACE 0 is no neighbour of 23", y.lay(), 2);
        check.due("place(0)", y.place(0), 0);
        check.due("place(5)", y.place(5), 5);
        y.lift(22);
        more(y, 1, 1);
        check.due("PLACE 22 has one behind: only 22 goes there", y.lay(), 1);
        check.due("place(22)", y.place(22), 22);
        liesNowhere(y, 24);
    }

    /** A hot one in place 0 is no neighbour of place 23. */
    private static void laidBehindTheFirst() {
        FoamBlocks x = withBlocks(180, 1, 1);
        x.kind(50, 1);
        more(x, 1, 21);
        x.lay();
        check.due("PLACE 1 is left free", x.place(1), -2);
        check.due("PLACE 22 is taken", x.place(22), 21);
        more(x, 0, 2);
        check.due("PLACE 23 for one that is HOT, none for the next", x.lay(), 1);
        check.due("place(23)", x.place(23), 22);
        liesNowhere(x, 23);
    }

    private static void laidByCooled() {
        FoamBlocks x = withBlocks(70, 10, 1);
        x.kind(180, 1);
        x.lay();
        x.pass(1);
        more(x, 1, 1);
        check.due("lay()", x.lay(), 1);
        placesAre(x, 0, 1);
        FoamBlocks y = withBlocks(71, 10, 1);
        y.kind(180, 1);
        y.lay();
        y.pass(1);
        more(y, 1, 1);
        check.due("lay()", y.lay(), 1);
        placesAre(y, 0, -2, 1);
    }

    /** Twelve hot ones fill the row, though twelve places are free. */
    private static void laidNoPlace() {
        FoamBlocks x = withBlocks(180, 1, 14);
        check.due("lay()", x.lay(), 12);
        check.due("PLACES taken", x.count(6), 12);
        check.due("place(22)", x.place(22), 11);
        check.due("place(23)", x.place(23), -2);
        liesNowhere(x, 12);
        liesNowhere(x, 13);
        x.kind(40, 1);
        more(x, 1, 1);
        check.due("one behind those that stay", x.lay(), 1);
        check.due("place(23)", x.place(23), 14);
        liesNowhere(x, 13);
    }

    private static void mostPlaces() {
        FoamBlocks x = withBlocks(50, 1, 26);
        check.due("lay()", x.lay(), 24);
        check.due("PLACES taken", x.count(6), 24);
        for (int p = 0; p < 24; p++) {
            check.due("place(" + p + ")", x.place(p), p);
        }
        liesNowhere(x, 24);
        liesNowhere(x, 25);
        x.lift(7);
        check.due("lay() of 7 again", x.lay(), 1);
        check.due("place(7)", x.place(7), 7);
    }

    private static void laidNow() {
        FoamBlocks x = new FoamBlocks();
        check.due("lay() without BLOCKS", x.lay(), 0);
        FoamBlocks y = withBlocks(50, 1, 3);
        check.due("lay()", y.lay(), 3);
        check.due("lay() again", y.lay(), 0);
        more(y, 0, 2);
        y.lift(0);
        check.due("lay() of two new ones and one lifted", y.lay(), 3);
        check.due("PLACES taken", y.count(6), 5);
    }

    private static void laidNotHot() {
        check.sentence("III: the first free PLACE that has no HOT neighbour",
            BlockEdgesTest::notHotFirst);
        check.sentence("III: else in the last free one", BlockEdgesTest::notHotLast);
        check.sentence("III: the last free one is PLACE 0", BlockEdgesTest::notHotLastIsFirst);
        check.sentence("III: one that isn't HOT is no bar", BlockEdgesTest::notHotIsNoBar);
    }

    private static void notHotFirst() {
        FoamBlocks x = withBlocks(180, 1, 1);
        x.kind(50, 1);
        more(x, 1, 2);
        check.due("lay()", x.lay(), 3);
        placesAre(x, 0, -2, 1, 2);
        FoamBlocks y = withBlocks(50, 1, 2);
        y.kind(180, 1);
        more(y, 1, 1);
        y.lay();
        y.lift(1);
        check.due("PLACE 1 has a HOT one behind", y.lay(), 1);
        placesAre(y, 0, -2, 2, -2, 1);
    }

    private static void notHotLast() {
        FoamBlocks x = withBlocks(180, 1, 12);
        x.lay();
        x.kind(50, 1);
        more(x, 1, 12);
        check.due("lay()", x.lay(), 12);
        for (int i = 0; i < 12; i++) {
            check.due("place(" + (23 - 2 * i) + ")", x.place(23 - 2 * i), 12 + i);
        }
        check.due("PLACES taken", x.count(6), 24);
        more(x, 1, 1);
        check.due("none is free", x.lay(), 0);
        liesNowhere(x, 24);
    }

    /** Place 0 alone is free, and place 1 has a hot one. */
    private static void notHotLastIsFirst() {
        FoamBlocks x = withBlocks(50, 1, 1);
        x.kind(180, 1);
        more(x, 1, 1);
        more(x, 0, 22);
        x.lay();
        check.due("place(1)", x.place(1), 1);
        check.due("place(2) has a HOT one ahead, and is the last free", x.place(2), 23);
        x.lift(0);
        more(x, 1, 1);
        check.due("lay() of 0, not of one that is HOT", x.lay(), 1);
        check.due("place(0)", x.place(0), 0);
        liesNowhere(x, 24);
    }

    private static void notHotIsNoBar() {
        FoamBlocks x = withBlocks(50, 1, 2);
        x.kind(180, 1);
        x.kind(60, 1);
        more(x, 1, 1);
        more(x, 2, 1);
        check.due("lay()", x.lay(), 4);
        placesAre(x, 0, 1, 2, -2, 3);
    }

    private static void place() {
        check.sentence("13: The BLOCK in a PLACE; NONE", BlockEdgesTest::placeNumbers);
        check.sentence("13: -2 if it is free", BlockEdgesTest::freePlaces);
    }

    private static void placeNumbers() {
        FoamBlocks x = withBlocks(50, 1, 24);
        x.lay();
        for (int none : new int[] {LEAST, -2, -1, 24, 25, MOST}) {
            check.due("place(" + none + ")", x.place(none), -1);
        }
        check.due("place(0)", x.place(0), 0);
        check.due("place(23)", x.place(23), 23);
    }

    private static void freePlaces() {
        FoamBlocks x = new FoamBlocks();
        placesAre(x);
        FoamBlocks y = withBlocks(50, 1, 2);
        placesAre(y);
        y.lay();
        placesAre(y, 0, 1);
        y.lift(0);
        placesAre(y, -2, 1);
        y.pass(24);
        y.order(0, 0, 1, 1, 1);
        y.fill(0);
        placesAre(y);
    }

    private static void lift() {
        check.sentence("14: out of its PLACE, and lies nowhere", BlockEdgesTest::lifted);
        check.sentence("14: false: 1", BlockEdgesTest::liftOfNone);
        check.sentence("14: false: 4", BlockEdgesTest::liftNotSo);
    }

    private static void lifted() {
        FoamBlocks x = withBlocks(180, 1, 2);
        x.lay();
        check.due(x, "lift(0)", x.lift(0), true, 0);
        placesAre(x, -2, -2, 1);
        liesNowhere(x, 0);
        check.due("PLACES taken", x.count(6), 1);
        check.due("BLOCKS", x.count(5), 2);
    }

    private static void liftOfNone() {
        FoamBlocks x = new FoamBlocks();
        check.due(x, "lift(0) at first", x.lift(0), false, 1);
        FoamBlocks y = withBlocks(50, 1, 2);
        y.lay();
        for (int none : new int[] {LEAST, -2, -1, 2, 23, 200, MOST}) {
            check.due(y, "lift(" + none + ")", y.lift(none), false, 1);
        }
        check.due("PLACES taken", y.count(6), 2);
    }

    private static void liftNotSo() {
        FoamBlocks x = withBlocks(50, 1, 2);
        check.due(x, "lift(0) of one not laid", x.lift(0), false, 4);
        x.lay();
        x.lift(0);
        check.due(x, "lift(0) of one lifted", x.lift(0), false, 4);
        check.due("place(1)", x.place(1), 1);
        x.pass(24);
        x.order(0, 0, 1, 1, 1);
        x.fill(0);
        check.due(x, "lift(1) of one gone", x.lift(1), false, 4);
        check.due("block(1, 0)", x.block(1, 0), 2);
    }

    private static void pass() {
        check.sentence("15: So many HOURS (1 .. 100)", BlockEdgesTest::passNumbers);
        check.sentence("15: (also beyond 3,000)", BlockEdgesTest::passBeyond);
        check.sentence("15: refused HOURS don't go by", BlockEdgesTest::refusedPass);
    }

    private static void passNumbers() {
        FoamBlocks x = new FoamBlocks();
        for (int wrong : new int[] {LEAST, -100, -1, 0, 101, MOST}) {
            check.due(x, "pass(" + wrong + ")", x.pass(wrong), -1, 2);
        }
        check.due(x, "pass(1)", x.pass(1), 1, 0);
        check.due(x, "pass(100)", x.pass(100), 101, 0);
        check.due(x, "pass(99)", x.pass(99), 200, 0);
        check.due("NOW", x.count(9), 200);
    }

    private static void passBeyond() {
        FoamBlocks x = new FoamBlocks();
        for (int i = 0; i < 29; i++) {
            x.pass(100);
        }
        check.due("2,950", x.pass(50), 2950);
        check.due(x, "3,001", x.pass(51), -1, 2);
        check.due(x, "3,050", x.pass(100), -1, 2);
        check.due(x, "a number that would wrap round", x.pass(MOST), -1, 2);
        check.due("NOW", x.count(9), 2950);
        check.due(x, "3,000", x.pass(50), 3000, 0);
        check.due(x, "3,001", x.pass(1), -1, 2);
        check.due("NOW", x.count(9), 3000);
    }

    private static void refusedPass() {
        FoamBlocks x = withBlocks(180, 1, 1);
        x.lay();
        x.pass(101);
        x.pass(0);
        check.due("CORE", x.block(0, 4), 180);
        check.due("HOURS in PLACES", x.block(0, 7), 0);
        for (int i = 0; i < 30; i++) {
            x.pass(100);
        }
        x.pass(1);
        check.due("HOURS in PLACES", x.block(0, 7), 3000);
    }

    private static void cured() {
        check.sentence("III: CURED: 24 HOURS", BlockEdgesTest::curedAfter);
        check.sentence("III: 24 HOURS in PLACES in all", BlockEdgesTest::curedInAll);
        check.sentence("III: in PLACES, not since it was cut", BlockEdgesTest::notCuredNowhere);
        check.sentence("III: (it may lie nowhere since)", BlockEdgesTest::curedAndLifted);
        check.sentence("III: and not HOT", BlockEdgesTest::curedNotHot);
        check.sentence("III: none that is gone", BlockEdgesTest::goneNotCured);
    }

    private static void curedAfter() {
        FoamBlocks x = withBlocks(50, 1, 1);
        x.lay();
        x.pass(23);
        check.due("23 HOURS", x.block(0, 5), 0);
        x.pass(1);
        check.due("24 HOURS", x.block(0, 5), 1);
        x.pass(1);
        check.due("25 HOURS", x.block(0, 5), 1);
    }

    private static void curedInAll() {
        FoamBlocks x = withBlocks(50, 1, 1);
        for (int i = 0; i < 3; i++) {
            x.lay();
            x.pass(8);
            check.due(8 * (i + 1) + " HOURS", x.block(0, 5), i == 2 ? 1 : 0);
            x.lift(0);
            x.pass(30);
        }
        check.due("HOURS in PLACES", x.block(0, 7), 24);
    }

    private static void notCuredNowhere() {
        FoamBlocks x = withBlocks(50, 1, 1);
        x.pass(100);
        check.due("nowhere for 100 HOURS", x.block(0, 5), 0);
        x.lay();
        check.due("as it is laid", x.block(0, 5), 0);
    }

    private static void curedAndLifted() {
        FoamBlocks x = withBlocks(50, 1, 1);
        x.lay();
        x.pass(24);
        x.lift(0);
        check.due("as it is lifted", x.block(0, 5), 1);
        x.pass(100);
        check.due("100 HOURS later", x.block(0, 5), 1);
        x.order(0, 0, 1, 1, 1);
        check.due("an ORDER is FILLED by it", x.fill(0), 1);
    }

    private static void curedNotHot() {
        FoamBlocks x = withBlocks(100, 1, 1);
        x.lay();
        x.pass(39);
        check.due("CORE 61", x.block(0, 5), 0);
        x.pass(1);
        check.due("CORE 60", x.block(0, 5), 1);
    }

    private static void goneNotCured() {
        FoamBlocks x = withBlocks(50, 1, 1);
        x.lay();
        x.pass(24);
        check.due("before", x.block(0, 5), 1);
        x.order(0, 0, 1, 1, 1);
        x.order(0, 0, 1, 1, 1);
        x.fill(0);
        check.due("as it is gone", x.block(0, 5), 0);
        check.due(x, "no ORDER is FILLED by it", x.fill(1), -1, 5);
    }
}
