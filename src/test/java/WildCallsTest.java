import java.util.NoSuchElementException;
import java.util.Random;

/** Whatever the arguments, and however long it goes on, no call throws but by, as the document says. */
public final class WildCallsTest {
    private static final int[] EDGES = {
        Integer.MIN_VALUE, Integer.MIN_VALUE + 1, -61, -3, -2, -1, 0, 1, 2, 4, 5, 6, 10, 20, 23, 24,
        25, 39, 40, 59, 60, 61, 80, 100, 180, 199, 200, 201, 400, 500, 999, 1000, 2000, 2001, 3000,
        3721, Integer.MAX_VALUE - 1, Integer.MAX_VALUE,
    };
    private static final Random random = new Random(7);

    public static void main(String[] args) {
        Check check = new Check();
        int thrown = 0;
        for (int run = 0; run < 60; run++) {
            FoamBlocks x = new FoamBlocks();
            for (int i = 0; i < 2000; i++) {
                try {
                    call(x, random.nextInt(22));
                } catch (NoSuchElementException e) {
                    boolean own = e.getStackTrace()[0].getMethodName().equals("by");
                    check.due("it is by that throws", own, true);
                } catch (RuntimeException e) {
                    thrown++;
                    System.out.println("run " + run + ": " + e + " at " + e.getStackTrace()[0]);
                }
            }
        }
        check.due("calls that threw", thrown, 0);
        check.end();
    }

    private static int any() {
        return random.nextInt(3) > 0 ? random.nextInt(30) : EDGES[random.nextInt(EDGES.length)];
    }

    private static void call(FoamBlocks x, int name) {
        switch (name) {
            case 0 -> x.kind(40 + any(), any());
            case 1 -> x.change(any(), any(), any());
            case 2 -> x.length(any());
            case 3 -> x.worth(any(), any(), any());
            case 4 -> x.size(any(), any());
            case 5 -> x.pour(random.nextInt(3), any());
            case 6 -> x.run(any(), any());
            case 7 -> x.best(any(), any());
            case 8 -> x.cut();
            case 9 -> x.block(any(), any());
            case 10 -> x.lay();
            case 11 -> x.place(any());
            case 12 -> x.lift(any());
            case 13 -> x.pass(any());
            case 14 -> x.pieces(any(), any());
            case 15 -> x.order(random.nextInt(3), random.nextInt(3), any(), any(), any());
            case 16 -> x.fill(any());
            case 17 -> x.by(any(), any());
            case 18 -> x.led(any());
            case 19 -> x.shred();
            case 20 -> x.count(any());
            default -> x.trouble();
        }
    }
}
