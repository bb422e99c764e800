import java.util.NoSuchElementException;
import java.util.Random;

/** Runs of 512 calls drawn from fixed seeds; each answer is the one that PlainModel gives. */
public final class RandomRunsTest {
    private static final int RUNS = 400;
    private static final int CALLS = 512;
    private static final int NAMES = 22;
    private static final Check check = new Check();

    private final Random random;
    private final FoamBlocks x = new FoamBlocks();
    private final PlainModel model = new PlainModel();
    private final int run;

    private RandomRunsTest(int run) {
        this.run = run;
        this.random = new Random(run);
    }

    public static void main(String[] args) {
        for (int run = 0; run < RUNS; run++) {
            new RandomRunsTest(run).goThrough();
        }
        check.end();
    }

    private void goThrough() {
        if (run % 4 != 0) {
            tellFirst();
        }
        int calls = run % 4 != 0 ? CALLS - 60 : CALLS;
        for (int i = 0; i < calls; i++) {
            one(name(i));
            due("trouble()", x.trouble(), model.trouble());
        }
    }

    private void due(String call, long got, long want) {
        check.due("run " + run + ": " + call, got, want);
    }

    private void due(String call, boolean got, boolean want) {
        check.due("run " + run + ": " + call, got, want);
    }

    /** Mostly within the bounds, at times just outside or far outside. */
    private int number(int least, int most) {
        int roll = random.nextInt(60);
        if (roll == 0) {
            return least - 1;
        }
        if (roll == 1) {
            return most + 1;
        }
        if (roll == 2) {
            return random.nextInt();
        }
        return least + random.nextInt(most - least + 1);
    }

    private int index(int size) {
        return size == 0 ? number(-1, 1) : number(0, size - 1);
    }

    private void tellFirst() {
        int kinds = 1 + random.nextInt(4);
        for (int i = 0; i < kinds; i++) {
            one(1);
        }
        for (int i = 0; i < 2 + random.nextInt(4); i++) {
            one(3);
        }
        for (int i = 0; i < 8; i++) {
            one(4);
        }
        one(5);
        for (int i = 0; i < 5; i++) {
            one(2);
        }
    }

    /** Each kind of run favours other calls, so that different bounds are met. */
    private int name(int i) {
        int roll = random.nextInt(100);
        int[] often = switch (run % 4) {
            case 1 -> new int[] {6, 9, 11, 14, 16, 17, 18, 14, 17};
            case 2 -> new int[] {6, 6, 6, 9, 7, 7, 10};
            case 3 -> new int[] {11, 13, 14, 10, 9, 6, 12, 17, 16};
            default -> new int[] {i % NAMES + 1};
        };
        return roll < 70 ? often[random.nextInt(often.length)] : 1 + random.nextInt(NAMES);
    }

    private void one(int name) {
        if (name <= 9) {
            tellOrBelt(name);
        } else if (name <= 14) {
            blocks(name);
        } else {
            orders(name);
        }
    }

    private void tellOrBelt(int name) {
        int kind = index(model.count(0));
        switch (name) {
            case 1 -> {
                int heat = number(40, 180);
                int cool = number(1, random.nextBoolean() ? 20 : 3);
                due("kind(" + heat + ", " + cool + ")", x.kind(heat, cool), model.kind(heat, cool));
            }
            case 2 -> {
                int to = index(model.count(0));
                int v = random.nextInt(3) == 0 ? 0 : number(0, 60);
                String call = "change(" + kind + ", " + to + ", " + v + ")";
                due(call, x.change(kind, to, v), model.change(kind, to, v));
            }
            case 3 -> {
                int v = number(5, random.nextBoolean() ? 80 : 15);
                due("length(" + v + ")", x.length(v), model.length(v));
            }
            case 4 -> {
                int length = index(model.count(1));
                int v = random.nextInt(4) == 0 ? number(0, 999) : random.nextInt(4) * 5;
                String call = "worth(" + length + ", " + kind + ", " + v + ")";
                due(call, x.worth(length, kind, v), model.worth(length, kind, v));
            }
            case 5 -> {
                int wide = number(1, random.nextBoolean() ? 60 : 12);
                int high = number(1, random.nextBoolean() ? 60 : 12);
                due("size(" + wide + ", " + high + ")", x.size(wide, high), model.size(wide, high));
            }
            case 6 -> {
                int v = number(1, random.nextInt(3) == 0 ? 400 : 60);
                due("pour(" + kind + ", " + v + ")", x.pour(kind, v), model.pour(kind, v));
            }
            case 7 -> {
                int i = index(model.count(2));
                int what = number(0, 2);
                due("run(" + i + ", " + what + ")", x.run(i, what), model.run(i, what));
            }
            case 8 -> {
                int v = number(0, random.nextInt(5) == 0 ? 2000 : 200);
                due("best(" + kind + ", " + v + ")", x.best(kind, v), model.best(kind, v));
            }
            default -> due("cut()", x.cut(), model.cut());
        }
    }

    private void blocks(int name) {
        int block = index(model.count(5));
        switch (name) {
            case 10 -> {
                int what = number(0, 7);
                String call = "block(" + block + ", " + what + ")";
                due(call, x.block(block, what), model.block(block, what));
            }
            case 11 -> due("lay()", x.lay(), model.lay());
            case 12 -> {
                int p = number(0, 23);
                due("place(" + p + ")", x.place(p), model.place(p));
            }
            case 13 -> {
                int p = model.place(random.nextInt(24));
                int lifted = random.nextBoolean() ? p : block;
                due("lift(" + lifted + ")", x.lift(lifted), model.lift(lifted));
            }
            default -> {
                int hours = number(1, random.nextInt(9) == 0 ? 100 : 12);
                due("pass(" + hours + ")", x.pass(hours), model.pass(hours));
            }
        }
    }

    private void orders(int name) {
        int order = index(model.count(7));
        switch (name) {
            case 15 -> {
                int w = number(1, random.nextBoolean() ? 60 : 9);
                int h = number(1, random.nextBoolean() ? 60 : 9);
                due("pieces(" + w + ", " + h + ")", x.pieces(w, h), model.pieces(w, h));
            }
            case 16 -> oneOrder();
            case 17 -> due("fill(" + order + ")", x.fill(order), model.fill(order));
            case 18 -> by(order, number(0, 2));
            case 19 -> {
                int lot = index(model.count(4));
                due("led(" + lot + ")", x.led(lot), model.led(lot));
            }
            case 20 -> due("shred()", x.shred(), model.shred());
            case 21 -> {
                int what = number(0, 9);
                due("count(" + what + ")", x.count(what), model.count(what));
            }
            default -> due("trouble()", x.trouble(), model.trouble());
        }
    }

    private void oneOrder() {
        int kind = index(model.count(0));
        int length = index(model.count(1));
        int w = number(1, random.nextInt(3) == 0 ? 60 : 7);
        int h = number(1, random.nextInt(3) == 0 ? 60 : 7);
        int many = number(1, random.nextInt(3) == 0 ? 500 : 12);
        String call = "order(" + kind + ", " + length + ", " + w + ", " + h + ", " + many + ")";
        due(call, x.order(kind, length, w, h, many), model.order(kind, length, w, h, many));
    }

    private void by(int order, int i) {
        long got;
        long want;
        try {
            got = x.by(order, i);
        } catch (NoSuchElementException e) {
            got = -99;
        }
        try {
            want = model.by(order, i);
        } catch (NoSuchElementException e) {
            want = -99;
        }
        due("by(" + order + ", " + i + ")", got, want);
    }
}
