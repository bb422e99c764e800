/** Promises 1 to 6: a test of its own for each sentence that names a boundary case. */
public final class TellEdgesTest {
    private static final Check check = new Check();
    private static final int LEAST = Integer.MIN_VALUE;
    private static final int MOST = Integer.MAX_VALUE;

    public static void main(String[] args) {
        newObject();
        kind();
        change();
        length();
        worth();
        size();
        check.end();
    }

    private static FoamBlocks withKinds(int many) {
        FoamBlocks x = new FoamBlocks();
        for (int i = 0; i < many; i++) {
            x.kind(100, 1);
        }
        return x;
    }

    private static void newObject() {
        check.sentence("1: An empty BELT", TellEdgesTest::newBelt);
        check.sentence("1: no KINDS", TellEdgesTest::newKinds);
        check.sentence("I: NOW 0 at first", TellEdgesTest::newNow);
        check.sentence("IV: 20 by 10 at first", TellEdgesTest::newSize);
        check.sentence("The constants: NONE = -1", TellEdgesTest::none);
    }

    private static void newBelt() {
        FoamBlocks x = new FoamBlocks();
        check.due("runs", x.count(2), 0);
        check.due("how long it is", x.count(3), 0);
        check.due("LOTS", x.count(4), 0);
        check.due("run(0, 0)", x.run(0, 0), -1);
        check.due(x, "cut()", x.cut(), -1, 4);
    }

    private static void newKinds() {
        FoamBlocks x = new FoamBlocks();
        check.due("KINDS", x.count(0), 0);
        check.due(x, "pour(0, 1)", x.pour(0, 1), -1, 1);
        check.due(x, "best(0, 0)", x.best(0, 0), -1, 1);
        check.due("the first KIND's number", x.kind(40, 1), 0);
    }

    private static void newNow() {
        FoamBlocks x = new FoamBlocks();
        check.due("NOW", x.count(9), 0);
        check.due("pass(1)", x.pass(1), 1);
    }

    private static void newSize() {
        FoamBlocks x = withKinds(1);
        check.due("pieces(20, 10)", x.pieces(20, 10), 1);
        check.due("pieces(1, 1)", x.pieces(1, 1), 200);
        check.due("pieces(21, 1)", x.pieces(21, 1), 0);
        check.due("pieces(11, 11)", x.pieces(11, 11), 0);
        x.pour(0, 1);
        x.cut();
        check.due("offcuts of 1 by 20 by 10", x.shred(), 2);
    }

    private static void none() {
        check.due("NONE", FoamBlocks.NONE, -1);
    }

    private static void kind() {
        check.sentence("I: KINDS 5", TellEdgesTest::fiveKinds);
        check.sentence("II: HEAT (40 .. 180)", TellEdgesTest::heat);
        check.sentence("II: COOL (1 .. 20)", TellEdgesTest::cool);
        check.sentence("2: NONE: 2; 3", TellEdgesTest::kindReasons);
        check.sentence("2: a refused KIND is none", TellEdgesTest::refusedKind);
    }

    private static void fiveKinds() {
        FoamBlocks x = new FoamBlocks();
        for (int i = 0; i < 5; i++) {
            check.due(x, "KIND " + i, x.kind(100 + i, 1), i, 0);
        }
        check.due(x, "a sixth KIND", x.kind(100, 1), -1, 3);
        check.due("KINDS", x.count(0), 5);
        check.due(x, "pour of the fifth", x.pour(4, 1), 1, 0);
        check.due(x, "pour of the sixth", x.pour(5, 1), -1, 1);
    }

    private static void heat() {
        for (int wrong : new int[] {LEAST, -100, 0, 39, 181, MOST}) {
            FoamBlocks x = new FoamBlocks();
            check.due(x, "kind(" + wrong + ", 1)", x.kind(wrong, 1), -1, 2);
        }
        for (int right : new int[] {40, 41, 179, 180}) {
            FoamBlocks x = new FoamBlocks();
            check.due(x, "kind(" + right + ", 1)", x.kind(right, 1), 0, 0);
            x.length(5);
            x.pour(0, 5);
            x.cut();
            check.due("HEAT of its core as it is cut", x.block(0, 4), right);
        }
    }

    private static void cool() {
        for (int wrong : new int[] {LEAST, -1, 0, 21, MOST}) {
            FoamBlocks x = new FoamBlocks();
            check.due(x, "kind(100, " + wrong + ")", x.kind(100, wrong), -1, 2);
        }
        for (int right : new int[] {1, 2, 19, 20}) {
            FoamBlocks x = new FoamBlocks();
            check.due(x, "kind(100, " + right + ")", x.kind(100, right), 0, 0);
            x.length(5);
            x.pour(0, 5);
            x.cut();
            x.pass(1);
            check.due("its core an HOUR later", x.block(0, 4), 100 - right);
        }
    }

    private static void kindReasons() {
        FoamBlocks x = withKinds(5);
        check.due(x, "a sixth with a wrong HEAT", x.kind(39, 1), -1, 2);
        check.due(x, "a sixth with a wrong COOL", x.kind(40, 21), -1, 2);
        check.due(x, "a sixth", x.kind(40, 1), -1, 3);
    }

    private static void refusedKind() {
        FoamBlocks x = new FoamBlocks();
        x.kind(39, 1);
        x.kind(40, 0);
        check.due("KINDS", x.count(0), 0);
        check.due("the next number", x.kind(40, 1), 0);
    }

    private static void change() {
        check.sentence("II: CHANGE .. (0 .. 60", TellEdgesTest::changeNumbers);
        check.sentence("II: 20 until told", TellEdgesTest::changeUntilTold);
        check.sentence("II: CHANGE from a KIND to another one", TellEdgesTest::changeOneWay);
        check.sentence("3: 1 (also of one and itself)", TellEdgesTest::changeOfItself);
        check.sentence("3: 1 there is none such", TellEdgesTest::changeOfNone);
        check.sentence("3: false: 1; 2", TellEdgesTest::changeReasons);
        check.sentence("3: a refused CHANGE stays", TellEdgesTest::refusedChange);
        check.sentence("3: CHANGE of 0 is no mixed foam", TellEdgesTest::changeOfNothing);
        check.sentence("3: what lies on THE BELT stays", TellEdgesTest::changeLater);
    }

    private static int mixedFoam(FoamBlocks x, int from, int to) {
        int cuts = x.count(2);
        for (int i = 0; i < cuts; i++) {
            x.cut();
        }
        x.pour(from, 1);
        return x.pour(to, 1) - 2;
    }

    private static void changeNumbers() {
        FoamBlocks x = withKinds(2);
        for (int wrong : new int[] {LEAST, -1, 61, MOST}) {
            check.due(x, "change(0, 1, " + wrong + ")", x.change(0, 1, wrong), false, 2);
        }
        for (int right : new int[] {0, 1, 59, 60}) {
            check.due(x, "change(0, 1, " + right + ")", x.change(0, 1, right), true, 0);
            check.due("mixed foam", mixedFoam(x, 0, 1), right);
        }
    }

    private static void changeUntilTold() {
        FoamBlocks x = withKinds(5);
        for (int from = 0; from < 5; from++) {
            for (int to = 0; to < 5; to++) {
                int due = from == to ? 0 : 20;
                check.due("from " + from + " to " + to, mixedFoam(x, from, to), due);
            }
        }
    }

    private static void changeOneWay() {
        FoamBlocks x = withKinds(5);
        for (int from = 0; from < 5; from++) {
            for (int to = 0; to < 5; to++) {
                check.due("change", x.change(from, to, 10 * from + to), from != to);
            }
        }
        for (int from = 0; from < 5; from++) {
            for (int to = 0; to < 5; to++) {
                int due = from == to ? 0 : 10 * from + to;
                check.due("from " + from + " to " + to, mixedFoam(x, from, to), due);
            }
        }
    }

    private static void changeOfItself() {
        FoamBlocks x = withKinds(5);
        for (int i = 0; i < 5; i++) {
            check.due(x, "change(" + i + ", " + i + ", 5)", x.change(i, i, 5), false, 1);
            check.due(x, "change(" + i + ", " + i + ", 61)", x.change(i, i, 61), false, 1);
        }
    }

    private static void changeOfNone() {
        FoamBlocks x = withKinds(2);
        for (int none : new int[] {LEAST, -2, -1, 2, 5, MOST}) {
            check.due(x, "change(0, " + none + ", 5)", x.change(0, none, 5), false, 1);
            check.due(x, "change(" + none + ", 0, 5)", x.change(none, 0, 5), false, 1);
            check.due(x, "change of none to none", x.change(none, none, 5), false, 1);
        }
    }

    private static void changeReasons() {
        FoamBlocks x = withKinds(2);
        check.due(x, "change(0, 2, 61)", x.change(0, 2, 61), false, 1);
        check.due(x, "change(2, 0, -1)", x.change(2, 0, -1), false, 1);
        check.due(x, "change(0, 1, 61)", x.change(0, 1, 61), false, 2);
    }

    private static void refusedChange() {
        FoamBlocks x = withKinds(2);
        x.change(0, 1, 7);
        x.change(0, 1, 61);
        x.change(0, 1, -1);
        check.due("mixed foam", mixedFoam(x, 0, 1), 7);
    }

    private static void changeOfNothing() {
        FoamBlocks x = withKinds(2);
        x.change(0, 1, 0);
        x.pour(0, 3);
        check.due("pour(1, 4)", x.pour(1, 4), 7);
        check.due("runs", x.count(2), 2);
        check.due("run(1, 0)", x.run(1, 0), 1);
        check.due("run(1, 1)", x.run(1, 1), 4);
    }

    private static void changeLater() {
        FoamBlocks x = withKinds(2);
        x.pour(0, 1);
        x.pour(1, 1);
        x.change(0, 1, 5);
        check.due("mixed foam poured before", x.run(1, 1), 20);
        check.due("how long THE BELT is", x.count(3), 22);
    }

    private static void length() {
        check.sentence("I: LENGTHS 6", TellEdgesTest::sixLengths);
        check.sentence("II: LENGTHS told: of 5 .. 80", TellEdgesTest::lengthNumbers);
        check.sentence("II: each once", TellEdgesTest::lengthOnce);
        check.sentence("4: NONE: 2; 4 (it is one already); 3", TellEdgesTest::lengthReasons);
        check.sentence("4: a refused LENGTH is none", TellEdgesTest::refusedLength);
    }

    private static void sixLengths() {
        FoamBlocks x = withKinds(1);
        for (int i = 0; i < 6; i++) {
            check.due(x, "LENGTH " + i, x.length(10 + i), i, 0);
        }
        check.due(x, "a seventh LENGTH", x.length(40), -1, 3);
        check.due("LENGTHS", x.count(1), 6);
        check.due(x, "WORTH of the sixth", x.worth(5, 0, 1), true, 0);
        check.due(x, "WORTH of the seventh", x.worth(6, 0, 1), false, 1);
    }

    private static void lengthNumbers() {
        for (int wrong : new int[] {LEAST, -5, 0, 4, 81, MOST}) {
            FoamBlocks x = new FoamBlocks();
            check.due(x, "length(" + wrong + ")", x.length(wrong), -1, 2);
        }
        for (int right : new int[] {5, 6, 79, 80}) {
            FoamBlocks x = withKinds(1);
            check.due(x, "length(" + right + ")", x.length(right), 0, 0);
            x.pour(0, right);
            x.cut();
            check.due("a BLOCK's length", x.block(0, 2), right);
        }
    }

    private static void lengthOnce() {
        FoamBlocks x = new FoamBlocks();
        for (int i = 0; i < 6; i++) {
            x.length(20 + i);
            for (int k = 0; k <= i; k++) {
                check.due(x, "length(" + (20 + k) + ") again", x.length(20 + k), -1, 4);
            }
        }
        check.due("LENGTHS", x.count(1), 6);
    }

    private static void lengthReasons() {
        FoamBlocks x = new FoamBlocks();
        for (int i = 0; i < 6; i++) {
            x.length(20 + i);
        }
        check.due(x, "a wrong seventh", x.length(4), -1, 2);
        check.due(x, "a wrong seventh", x.length(81), -1, 2);
        check.due(x, "a seventh that is one already", x.length(20), -1, 4);
        check.due(x, "a seventh", x.length(40), -1, 3);
    }

    private static void refusedLength() {
        FoamBlocks x = new FoamBlocks();
        x.length(4);
        x.length(5);
        x.length(5);
        check.due("LENGTHS", x.count(1), 1);
        check.due("the next number", x.length(6), 1);
    }

    private static void worth() {
        check.sentence("II: WORTH .. (0 .. 999", TellEdgesTest::worthNumbers);
        check.sentence("II: WORTH .. 0 until told", TellEdgesTest::worthUntilTold);
        check.sentence("5: WORTH of a LENGTH (by its number)", TellEdgesTest::worthByNumber);
        check.sentence("5: .. of a KIND", TellEdgesTest::worthOfAKind);
        check.sentence("5: 1 there is none such", TellEdgesTest::worthOfNone);
        check.sentence("5: false: 1; 2", TellEdgesTest::worthReasons);
        check.sentence("5: a refused WORTH stays", TellEdgesTest::refusedWorth);
    }

    private static void worthNumbers() {
        FoamBlocks x = withKinds(1);
        x.length(10);
        for (int wrong : new int[] {LEAST, -1, 1000, MOST}) {
            check.due(x, "worth(0, 0, " + wrong + ")", x.worth(0, 0, wrong), false, 2);
        }
        for (int right : new int[] {999, 998, 1, 0}) {
            check.due(x, "worth(0, 0, " + right + ")", x.worth(0, 0, right), true, 0);
            check.due("best(0, 10)", x.best(0, 10), right);
        }
    }

    private static void worthUntilTold() {
        FoamBlocks x = withKinds(4);
        for (int i = 0; i < 6; i++) {
            x.length(10 + i);
        }
        x.kind(50, 1);
        for (int kind = 0; kind < 5; kind++) {
            check.due(x, "best(" + kind + ", 2000)", x.best(kind, 2000), 0, 0);
        }
    }

    private static void worthByNumber() {
        FoamBlocks x = withKinds(1);
        x.length(10);
        x.length(5);
        check.due(x, "worth(10, 0, 3)", x.worth(10, 0, 3), false, 1);
        check.due(x, "worth(1, 0, 3)", x.worth(1, 0, 3), true, 0);
        check.due("best(0, 5)", x.best(0, 5), 3);
        check.due("best(0, 9)", x.best(0, 9), 3);
    }

    private static void worthOfAKind() {
        FoamBlocks x = withKinds(5);
        for (int i = 0; i < 6; i++) {
            x.length(41 + i);
        }
        for (int kind = 0; kind < 5; kind++) {
            for (int i = 0; i < 6; i++) {
                x.worth(i, kind, 100 * kind + 10 * i + 1);
            }
        }
        for (int kind = 0; kind < 5; kind++) {
            for (int i = 0; i < 6; i++) {
                int due = 100 * kind + 10 * i + 1;
                check.due("best(" + kind + ", " + (41 + i) + ")", x.best(kind, 41 + i), due);
            }
        }
    }

    private static void worthOfNone() {
        FoamBlocks x = withKinds(1);
        x.length(10);
        for (int none : new int[] {LEAST, -1, 1, 5, 6, 10, MOST}) {
            check.due(x, "worth(" + none + ", 0, 5)", x.worth(none, 0, 5), false, 1);
            check.due(x, "worth(0, " + none + ", 5)", x.worth(0, none, 5), false, 1);
        }
    }

    private static void worthReasons() {
        FoamBlocks x = withKinds(1);
        x.length(10);
        check.due(x, "worth(1, 0, 1000)", x.worth(1, 0, 1000), false, 1);
        check.due(x, "worth(0, 1, -1)", x.worth(0, 1, -1), false, 1);
        check.due(x, "worth(0, 0, 1000)", x.worth(0, 0, 1000), false, 2);
    }

    private static void refusedWorth() {
        FoamBlocks x = withKinds(1);
        x.length(10);
        x.worth(0, 0, 7);
        x.worth(0, 0, 1000);
        x.worth(0, 0, -1);
        check.due("best(0, 10)", x.best(0, 10), 7);
    }

    private static void size() {
        check.sentence("IV: WIDE by HIGH (1 .. 60 both", TellEdgesTest::sizeNumbers);
        check.sentence("6: if there are no BLOCKS", TellEdgesTest::sizeWithBlocks);
        check.sentence("6: false: 2; 4", TellEdgesTest::sizeReasons);
        check.sentence("6: a refused size stays", TellEdgesTest::refusedSize);
    }

    private static void sizeNumbers() {
        FoamBlocks x = new FoamBlocks();
        for (int wrong : new int[] {LEAST, -1, 0, 61, MOST}) {
            check.due(x, "size(" + wrong + ", 1)", x.size(wrong, 1), false, 2);
            check.due(x, "size(1, " + wrong + ")", x.size(1, wrong), false, 2);
        }
        for (int right : new int[] {1, 2, 59, 60}) {
            check.due(x, "size(" + right + ", 3)", x.size(right, 3), true, 0);
            check.due("pieces(1, 1)", x.pieces(1, 1), right * 3);
            check.due(x, "size(3, " + right + ")", x.size(3, right), true, 0);
            check.due("pieces(1, 1)", x.pieces(1, 1), right * 3);
        }
    }

    private static void sizeWithBlocks() {
        FoamBlocks x = withKinds(1);
        x.length(10);
        x.pour(0, 9);
        check.due(x, "size with a run", x.size(7, 5), true, 0);
        x.cut();
        check.due(x, "size after a cut of no BLOCKS", x.size(6, 5), true, 0);
        x.pour(0, 10);
        x.cut();
        check.due(x, "size with one BLOCK", x.size(7, 5), false, 4);
        x.lay();
        check.due(x, "size with one in a PLACE", x.size(6, 5), false, 4);
    }

    private static void sizeReasons() {
        FoamBlocks x = withKinds(1);
        x.length(10);
        x.pour(0, 10);
        x.cut();
        check.due(x, "size(0, 5)", x.size(0, 5), false, 2);
        check.due(x, "size(5, 61)", x.size(5, 61), false, 2);
        check.due(x, "size(5, 5)", x.size(5, 5), false, 4);
    }

    private static void refusedSize() {
        FoamBlocks x = withKinds(1);
        x.size(7, 5);
        x.size(60, 61);
        x.size(61, 60);
        check.due("pieces(1, 1)", x.pieces(1, 1), 35);
        x.length(10);
        x.pour(0, 10);
        x.cut();
        x.size(60, 60);
        check.due("pieces(1, 1)", x.pieces(1, 1), 35);
    }
}
