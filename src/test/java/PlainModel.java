import java.util.ArrayList;
import java.util.HashMap;
import java.util.List;
import java.util.Map;
import java.util.NoSuchElementException;

/** The document told a second time, as plainly as can be, for RandomRunsTest to compare with. */
final class PlainModel {
    private record Kind(int heat, int cool) { }

    private static final class Run {
        int kind;
        int length;
        int lot;

        Run(int kind, int length, int lot) {
            this.kind = kind;
            this.length = length;
            this.lot = lot;
        }
    }

    private static final class Block {
        Run from;
        int length;
        int cutAt;
        int hours;
        boolean gone;
        int pieces;
    }

    private static final class Order {
        int kind;
        int length;
        int w;
        int h;
        int many;
        List<Integer> by;
    }

    private final List<Kind> kinds = new ArrayList<>();
    private final Map<String, Integer> changes = new HashMap<>();
    private final List<Integer> lengths = new ArrayList<>();
    private final Map<String, Integer> worths = new HashMap<>();
    private final List<Run> belt = new ArrayList<>();
    private final List<Block> blocks = new ArrayList<>();
    private final Block[] places = new Block[24];
    private final List<Order> orders = new ArrayList<>();
    private int wide = 20;
    private int high = 10;
    private int lots;
    private int now;
    private int offcuts;
    private int trouble;

    private static boolean in(int v, int from, int to) {
        return from <= v && v <= to;
    }

    private static <T> boolean has(List<T> list, int i) {
        return 0 <= i && i < list.size();
    }

    private int tell(int why, int answer) {
        trouble = why;
        return why == 0 ? answer : -1;
    }

    private boolean tell(int why) {
        trouble = why;
        return why == 0;
    }

    int kind(int heat, int cool) {
        int why = !in(heat, 40, 180) || !in(cool, 1, 20) ? 2 : kinds.size() == 5 ? 3 : 0;
        if (why == 0) {
            kinds.add(new Kind(heat, cool));
        }
        return tell(why, kinds.size() - 1);
    }

    boolean change(int from, int to, int v) {
        boolean known = has(kinds, from) && has(kinds, to) && from != to;
        int why = !known ? 1 : !in(v, 0, 60) ? 2 : 0;
        if (why == 0) {
            changes.put(from + ">" + to, v);
        }
        return tell(why);
    }

    int length(int v) {
        int why = !in(v, 5, 80) ? 2 : lengths.contains(v) ? 4 : lengths.size() == 6 ? 3 : 0;
        if (why == 0) {
            lengths.add(v);
        }
        return tell(why, lengths.size() - 1);
    }

    boolean worth(int length, int kind, int v) {
        int why = !has(lengths, length) || !has(kinds, kind) ? 1 : !in(v, 0, 999) ? 2 : 0;
        if (why == 0) {
            worths.put(lengths.get(length) + " of " + kind, v);
        }
        return tell(why);
    }

    boolean size(int w, int h) {
        int why = !in(w, 1, 60) || !in(h, 1, 60) ? 2 : !blocks.isEmpty() ? 4 : 0;
        if (why == 0) {
            wide = w;
            high = h;
        }
        return tell(why);
    }

    private int beltLength() {
        return belt.stream().mapToInt(r -> r.length).sum();
    }

    int pour(int kind, int v) {
        if (!has(kinds, kind)) {
            return tell(1, 0);
        }
        if (!in(v, 1, 400)) {
            return tell(2, 0);
        }
        List<Run> more = new ArrayList<>();
        Run last = belt.isEmpty() ? null : belt.get(belt.size() - 1);
        boolean other = last != null && last.kind != kind;
        if (other) {
            int mixed = changes.getOrDefault(last.kind + ">" + kind, 20);
            if (mixed > 0) {
                more.add(new Run(-2, mixed, -2));
            }
        }
        boolean longer = last != null && !other;
        if (!longer) {
            more.add(new Run(kind, v, lots));
        }
        int total = beltLength() + (longer ? v : 0) + more.stream().mapToInt(r -> r.length).sum();
        if (total > 2000 || belt.size() + more.size() > 60) {
            return tell(3, 0);
        }
        if (longer) {
            last.length += v;
        } else {
            lots++;
        }
        belt.addAll(more);
        return tell(0, total);
    }

    int run(int i, int what) {
        if (!has(belt, i) || !in(what, 0, 2)) {
            return -1;
        }
        Run r = belt.get(i);
        return new int[] {r.kind, r.length, r.lot}[what];
    }

    private int worthOf(List<Integer> cuts, int kind) {
        return cuts.stream().mapToInt(c -> worths.getOrDefault(c + " of " + kind, 0)).sum();
    }

    private static boolean longerFirst(List<Integer> a, List<Integer> b) {
        for (int i = 0; i < a.size() && i < b.size(); i++) {
            if (!a.get(i).equals(b.get(i))) {
                return a.get(i) > b.get(i);
            }
        }
        return a.size() > b.size();
    }

    /** For each length of a run, up to this one, the cuts that are best. */
    private List<List<Integer>> bestCuts(int kind, int run) {
        List<List<Integer>> best = new ArrayList<>();
        List<Integer> worth = new ArrayList<>();
        for (int r = 0; r <= run; r++) {
            List<Integer> found = new ArrayList<>();
            int foundWorth = 0;
            for (int first : lengths) {
                if (first > r) {
                    continue;
                }
                int w = worthOf(List.of(first), kind) + worth.get(r - first);
                if (w < foundWorth) {
                    continue;
                }
                List<Integer> cuts = new ArrayList<>();
                cuts.add(first);
                cuts.addAll(best.get(r - first));
                if (w > foundWorth || longerFirst(cuts, found)) {
                    found = cuts;
                    foundWorth = w;
                }
            }
            best.add(found);
            worth.add(foundWorth);
        }
        return best;
    }

    int best(int kind, int v) {
        if (!has(kinds, kind)) {
            return tell(1, 0);
        }
        if (!in(v, 0, 2000)) {
            return tell(2, 0);
        }
        return tell(0, worthOf(bestCuts(kind, v).get(v), kind));
    }

    int cut() {
        if (belt.isEmpty()) {
            return tell(4, 0);
        }
        Run first = belt.get(0);
        List<Integer> cuts = new ArrayList<>();
        if (first.kind >= 0) {
            cuts = bestCuts(first.kind, first.length).get(first.length);
        }
        if (blocks.size() + cuts.size() > 200) {
            return tell(3, 0);
        }
        int left = first.length;
        for (int c : cuts) {
            Block b = new Block();
            b.from = first;
            b.length = c;
            b.cutAt = now;
            blocks.add(b);
            left -= c;
        }
        offcuts += left * wide * high / 100;
        belt.remove(0);
        return tell(0, cuts.size());
    }

    private int core(Block b) {
        Kind k = kinds.get(b.from.kind);
        int core = k.heat;
        for (int i = b.cutAt; i < now && core > 20; i++) {
            core -= k.cool;
        }
        return core < 20 ? 20 : core;
    }

    private boolean hot(Block b) {
        return b != null && core(b) > 60;
    }

    private boolean cured(Block b) {
        return !b.gone && b.hours >= 24 && !hot(b);
    }

    private int placeOf(Block b) {
        for (int p = 0; p < 24; p++) {
            if (places[p] == b) {
                return p;
            }
        }
        return -1;
    }

    int block(int i, int what) {
        if (!has(blocks, i)) {
            return -1;
        }
        Block b = blocks.get(i);
        return switch (what) {
            case 0 -> b.gone ? 2 : placeOf(b) >= 0 ? 1 : 0;
            case 1 -> b.from.kind;
            case 2 -> b.length;
            case 3 -> b.from.lot;
            case 4 -> core(b);
            case 5 -> cured(b) ? 1 : 0;
            case 6 -> placeOf(b);
            case 7 -> b.hours;
            default -> -1;
        };
    }

    int lay() {
        int laid = 0;
        for (Block b : blocks) {
            if (b.gone || placeOf(b) >= 0) {
                continue;
            }
            int found = -1;
            int last = -1;
            for (int p = 23; p >= 0; p--) {
                if (places[p] != null) {
                    continue;
                }
                last = Math.max(last, p);
                boolean hotLeft = p > 0 && hot(places[p - 1]);
                boolean hotRight = p < 23 && hot(places[p + 1]);
                if (!hotLeft && !hotRight) {
                    found = p;
                }
            }
            int p = found < 0 && !hot(b) ? last : found;
            if (p >= 0) {
                places[p] = b;
                laid++;
            }
        }
        return laid;
    }

    int place(int p) {
        if (!in(p, 0, 23)) {
            return -1;
        }
        return places[p] == null ? -2 : blocks.indexOf(places[p]);
    }

    boolean lift(int block) {
        if (!has(blocks, block)) {
            return tell(1);
        }
        int p = placeOf(blocks.get(block));
        if (p < 0) {
            return tell(4);
        }
        places[p] = null;
        return tell(0);
    }

    int pass(int hours) {
        if (!in(hours, 1, 100) || now + hours > 3000) {
            return tell(2, 0);
        }
        now += hours;
        for (Block b : places) {
            if (b != null) {
                b.hours += hours;
            }
        }
        return tell(0, now);
    }

    /** Every cut at every tenth, both ways. */
    static int allCuts(int a, int b, int w, int h) {
        int[][] most = new int[a + 1][b + 1];
        for (int x = 1; x <= a; x++) {
            for (int y = 1; y <= b; y++) {
                int m = (x >= w && y >= h) || (x >= h && y >= w) ? 1 : 0;
                for (int c = 1; c < x; c++) {
                    m = Math.max(m, most[c][y] + most[x - c][y]);
                }
                for (int c = 1; c < y; c++) {
                    m = Math.max(m, most[x][c] + most[x][y - c]);
                }
                most[x][y] = m;
            }
        }
        return most[a][b];
    }

    int pieces(int w, int h) {
        if (!in(w, 1, 60) || !in(h, 1, 60)) {
            return tell(2, 0);
        }
        return tell(0, allCuts(wide, high, w, h));
    }

    int order(int kind, int length, int w, int h, int many) {
        if (!has(kinds, kind) || !has(lengths, length)) {
            return tell(1, 0);
        }
        if (!in(w, 1, 60) || !in(h, 1, 60) || !in(many, 1, 500)) {
            return tell(2, 0);
        }
        if (orders.size() == 40) {
            return tell(3, 0);
        }
        Order o = new Order();
        o.kind = kind;
        o.length = lengths.get(length);
        o.w = w;
        o.h = h;
        o.many = many;
        orders.add(o);
        return tell(0, orders.size() - 1);
    }

    int fill(int order) {
        if (!has(orders, order)) {
            return tell(1, 0);
        }
        Order o = orders.get(order);
        if (o.by != null) {
            return tell(4, 0);
        }
        int each = allCuts(wide, high, o.w, o.h);
        List<Block> may = new ArrayList<>();
        for (Block b : blocks) {
            if (cured(b) && b.from.kind == o.kind && b.length == o.length) {
                may.add(b);
            }
        }
        if (may.size() * each < o.many) {
            return tell(5, 0);
        }
        may.sort((a, b) -> b.hours - a.hours);
        o.by = new ArrayList<>();
        int still = o.many;
        for (int i = 0; still > 0; i++) {
            Block b = may.get(i);
            b.pieces = Math.min(still, each);
            still -= b.pieces;
            offcuts += (wide * high - o.w * o.h * b.pieces) * b.length / 100;
            int p = placeOf(b);
            if (p >= 0) {
                places[p] = null;
            }
            b.gone = true;
            o.by.add(blocks.indexOf(b));
        }
        return tell(0, o.by.size());
    }

    int by(int order, int i) {
        if (!has(orders, order) || orders.get(order).by == null || !has(orders.get(order).by, i)) {
            throw new NoSuchElementException();
        }
        return orders.get(order).by.get(i);
    }

    int led(int lot) {
        return blocks.stream().filter(b -> b.from.lot == lot).mapToInt(b -> b.pieces).sum();
    }

    int shred() {
        int all = offcuts;
        offcuts = 0;
        return all;
    }

    int count(int what) {
        return switch (what) {
            case 0 -> kinds.size();
            case 1 -> lengths.size();
            case 2 -> belt.size();
            case 3 -> beltLength();
            case 4 -> lots;
            case 5 -> blocks.size();
            case 6 -> (int) blocks.stream().filter(b -> placeOf(b) >= 0).count();
            case 7 -> orders.size();
            case 8 -> (int) orders.stream().filter(o -> o.by != null).count();
            case 9 -> now;
            default -> -1;
        };
    }

    int trouble() {
        return trouble;
    }
}
