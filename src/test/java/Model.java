import java.util.ArrayList;
import java.util.Arrays;
import java.util.List;
import java.util.NoSuchElementException;

/**
 * The document once more, written as its words stand and without any thought of speed, to compare with. Plans are
 * weighed over all bits of all places, from the last place back; exhaustive() tries every plan one by one instead.
 */
final class Model {
    private static final int NONE = -1;
    private static final int FAR = 1 << 20;

    private int threads = 1;
    private int places = 1;
    private int[] bundle = new int[16];
    private boolean[] folded = new boolean[8];
    private boolean[][] bound = new boolean[8][24];
    private int[][] colour = new int[8][24];
    private int[][] wanted = new int[16][24];
    private int[] low = new int[16];
    private int[] high = new int[16];
    private final int[][] table = new int[16][4];
    private final int[] strength = new int[4];
    private final List<int[]> laws = new ArrayList<>();
    private int baths = 0;
    private Plan kept = null;

    static final class Plan {
        int row;
        int ties;
        final int[][] bits = new int[8][24];
    }

    Model() {
        for (int c = 0; c < 16; c++) {
            for (int d = 0; d < 4; d++) {
                table[c][d] = c | 1 << d;
            }
        }
    }

    private static void index(boolean right) {
        if (!right) {
            throw new IndexOutOfBoundsException();
        }
    }

    private static void argument(boolean right) {
        if (!right) {
            throw new IllegalArgumentException();
        }
    }

    private static boolean in(int x, int from, int to) {
        return x >= from && x <= to;
    }

    private void wash() {
        bound = new boolean[8][24];
        colour = new int[8][24];
    }

    void frame(int t, int p) {
        argument(in(t, 1, 16) && in(p, 1, 24));
        threads = t;
        places = p;
        bundle = new int[16];
        folded = new boolean[8];
        wanted = new int[16][24];
        low = new int[16];
        high = new int[16];
        kept = null;
        wash();
    }

    int into(int t, int b) {
        index(in(t, 0, threads - 1) && in(b, 0, 7));
        int was = bundle[t];
        bundle[t] = b;
        kept = null;
        wash();
        return was;
    }

    boolean fold(int b, boolean is) {
        index(in(b, 0, 7));
        boolean was = folded[b];
        folded[b] = is;
        kept = null;
        wash();
        return was;
    }

    int table(int c, int d, int to) {
        index(in(c, 0, 15) && in(d, 0, 3));
        argument(in(to, 0, 15));
        int was = table[c][d];
        table[c][d] = to;
        kept = null;
        return was;
    }

    int vat(int d, int more) {
        index(in(d, 0, 3));
        if (more < 1 || (long) more + strength[d] > 1000000) {
            return NONE;
        }
        strength[d] += more;
        return strength[d];
    }

    int tie(int b, int from, int to) {
        return turn(b, from, to, true);
    }

    int untie(int b, int from, int to) {
        return turn(b, from, to, false);
    }

    private int turn(int b, int from, int to, boolean is) {
        index(in(b, 0, 7) && in(from, 0, places - 1) && in(to, 0, places - 1));
        argument(from <= to);
        int turned = 0;
        for (int p = from; p <= to; p++) {
            for (int q : new int[] {p, folded[b] ? places - 1 - p : p}) {
                if (bound[b][q] != is) {
                    bound[b][q] = is;
                    turned++;
                }
            }
        }
        return turned;
    }

    int bath(int d) {
        index(in(d, 0, 3));
        int loss = 0;
        for (int t = 0; t < threads; t++) {
            for (int p = 0; p < places; p++) {
                loss += bound[bundle[t]][p] ? 0 : 1;
            }
        }
        if (loss > strength[d]) {
            return NONE;
        }
        strength[d] -= loss;
        baths++;
        for (int b = 0; b < 8; b++) {
            for (int p = 0; p < places; p++) {
                colour[b][p] = bound[b][p] ? colour[b][p] : table[colour[b][p]][d];
            }
        }
        return loss;
    }

    int colour(int t, int p) {
        index(in(t, 0, threads - 1) && in(p, 0, places - 1));
        return colour[bundle[t]][p];
    }

    boolean bound(int b, int p) {
        index(in(b, 0, 7) && in(p, 0, places - 1));
        return bound[b][p];
    }

    int want(int t, int p, int c) {
        index(in(t, 0, threads - 1) && in(p, 0, places - 1));
        argument(in(c, 0, 15));
        int was = wanted[t][p];
        wanted[t][p] = c;
        kept = null;
        return was;
    }

    /** The dyes of a row; null if it is none. */
    static int[] dyes(int row) {
        for (int n = 0; n <= 4; n++) {
            int[] dyes = new int[n];
            int all = 1 << (2 * n);
            for (int k = 0; k < all; k++) {
                int told = 0;
                for (int i = 0; i < n; i++) {
                    dyes[i] = k >> (2 * i) & 3;
                    told |= (dyes[i] + 1) << (3 * i);
                }
                if (told == row) {
                    return dyes;
                }
            }
        }
        return null;
    }

    static int rowOf(int[] dyes) {
        int row = 0;
        for (int i = 0; i < dyes.length; i++) {
            row |= (dyes[i] + 1) << (3 * i);
        }
        return row;
    }

    private int crowd(int b) {
        int crowd = 0;
        for (int t = 0; t < threads; t++) {
            crowd += bundle[t] == b ? 1 : 0;
        }
        return crowd;
    }

    private int outcome(int[] dyes, int bits) {
        int c = 0;
        for (int i = 0; i < dyes.length; i++) {
            c = (bits >> i & 1) != 0 ? c : table[c][dyes[i]];
        }
        return c;
    }

    private boolean makes(int b, int p, int c) {
        for (int t = 0; t < threads; t++) {
            if (bundle[t] == b && wanted[t][p] != c) {
                return false;
            }
        }
        return true;
    }

    private boolean fits(int b, int p, int[] dyes, int bits) {
        int c = outcome(dyes, bits);
        return makes(b, p, c) && (!folded[b] || makes(b, places - 1 - p, c));
    }

    private int half(int b) {
        return folded[b] ? (places - 1) / 2 + 1 : places;
    }

    /** Whether a place is bound in a bath and was not in the one ahead. */
    private static boolean anew(int bits, int bath) {
        return (bits >> bath & 1) != 0 && (bath == 0 || (bits >> (bath - 1) & 1) == 0);
    }

    /** How many rows start at a place, its neighbour ahead having other bits. */
    private static int starting(int bits, int ahead, int n) {
        int starts = 0;
        for (int bath = 0; bath < n; bath++) {
            starts += anew(bits, bath) && !anew(ahead, bath) ? 1 : 0;
        }
        return starts;
    }

    Plan planFor(int[] dyes) {
        Plan plan = new Plan();
        plan.row = rowOf(dyes);
        int n = dyes.length;
        for (int b = 0; b < 8; b++) {
            if (crowd(b) == 0) {
                continue;
            }
            int h = half(b);
            int[][] rest = new int[h + 1][16];
            for (int p = h - 1; p >= 0; p--) {
                for (int ahead = 0; ahead < 1 << n; ahead++) {
                    rest[p][ahead] = FAR;
                    for (int bits = 0; bits < 1 << n; bits++) {
                        if (fits(b, p, dyes, bits)) {
                            rest[p][ahead] = Math.min(rest[p][ahead], starting(bits, ahead, n) + rest[p + 1][bits]);
                        }
                    }
                }
            }
            if (rest[0][0] >= FAR) {
                return null;
            }
            plan.ties += rest[0][0];
            int ahead = 0;
            for (int p = 0; p < h; p++) {
                int bits = 0;
                while (!fits(b, p, dyes, bits) || starting(bits, ahead, n) + rest[p + 1][bits] != rest[p][ahead]) {
                    bits++;
                }
                plan.bits[b][p] = bits;
                if (folded[b]) {
                    plan.bits[b][places - 1 - p] = bits;
                }
                ahead = bits;
            }
        }
        return plan;
    }

    /** Every plan is tried, in the order of its bits; the first one of the fewest ties stays. */
    Plan exhaustive(int[] dyes) {
        Plan plan = new Plan();
        plan.row = rowOf(dyes);
        for (int b = 0; b < 8; b++) {
            if (crowd(b) > 0 && !exhaustBundle(plan, b, dyes)) {
                return null;
            }
        }
        return plan;
    }

    private boolean exhaustBundle(Plan plan, int b, int[] dyes) {
        int n = dyes.length;
        int h = half(b);
        int fewest = FAR;
        for (long k = 0; k < 1L << (n * h); k++) {
            int[] bits = new int[places];
            for (int p = 0; p < h; p++) {
                bits[p] = (int) (k >> (n * (h - 1 - p))) & ((1 << n) - 1);
                if (folded[b]) {
                    bits[places - 1 - p] = bits[p];
                }
            }
            boolean right = true;
            for (int p = 0; p < places && right; p++) {
                right = makes(b, p, outcome(dyes, bits[p]));
            }
            if (right) {
                int ties = tiesByWords(bits, h, n);
                if (ties < fewest) {
                    fewest = ties;
                    plan.bits[b] = Arrays.copyOf(bits, 24);
                }
            }
        }
        plan.ties += fewest;
        return fewest < FAR;
    }

    private static int tiesByWords(int[] bits, int h, int n) {
        int ties = 0;
        for (int bath = 0; bath < n; bath++) {
            StringBuilder row = new StringBuilder();
            for (int p = 0; p < h; p++) {
                row.append(anew(bits[p], bath) ? 'x' : ' ');
            }
            for (String part : row.toString().trim().split(" +")) {
                ties += part.isEmpty() ? 0 : 1;
            }
        }
        return ties;
    }

    private int keep(Plan plan) {
        if (plan == null) {
            return NONE;
        }
        kept = plan;
        return plan.ties;
    }

    int plan(int row) {
        int[] dyes = dyes(row);
        argument(dyes != null);
        return keep(planFor(dyes));
    }

    int best(int most) {
        argument(in(most, 0, 4));
        Plan best = null;
        int[] bestDyes = null;
        for (int row = 0; row < 4096; row++) {
            int[] dyes = dyes(row);
            if (dyes != null && dyes.length <= most) {
                Plan plan = planFor(dyes);
                if (plan != null && (best == null || ahead(plan, dyes, best, bestDyes))) {
                    best = plan;
                    bestDyes = dyes;
                }
            }
        }
        return keep(best);
    }

    private static boolean ahead(Plan a, int[] aDyes, Plan b, int[] bDyes) {
        if (a.ties != b.ties) {
            return a.ties < b.ties;
        }
        if (aDyes.length != bDyes.length) {
            return aDyes.length < bDyes.length;
        }
        return Arrays.compare(aDyes, bDyes) < 0;
    }

    int kept(int what) {
        if (!in(what, 0, 2)) {
            throw new NoSuchElementException();
        }
        if (kept == null) {
            return NONE;
        }
        return new int[] {kept.row, dyes(kept.row).length, kept.ties}[what];
    }

    int bits(int b, int p) {
        index(in(b, 0, 7) && in(p, 0, places - 1));
        return kept == null ? NONE : kept.bits[b][p];
    }

    int dye() {
        if (kept == null) {
            return NONE;
        }
        boolean[][] boundWas = bound;
        int[][] colourWas = colour;
        int[] strengthWas = strength.clone();
        int bathsWas = baths;
        int[] dyes = dyes(kept.row);
        int lost = 0;
        wash();
        for (int i = 0; i < dyes.length; i++) {
            for (int b = 0; b < 8; b++) {
                for (int p = 0; p < places; p++) {
                    bound[b][p] = (kept.bits[b][p] >> i & 1) != 0;
                }
            }
            int loss = bath(dyes[i]);
            if (loss == NONE) {
                bound = boundWas;
                colour = colourWas;
                System.arraycopy(strengthWas, 0, strength, 0, 4);
                baths = bathsWas;
                return NONE;
            }
            lost += loss;
        }
        return lost;
    }

    void slip(int t, int l, int h) {
        index(in(t, 0, threads - 1));
        argument(-3 <= l && l <= h && h <= 3);
        low[t] = l;
        high[t] = h;
    }

    int seen(int t, int p) {
        index(in(t, 0, threads - 1) && in(p, 0, places - 1));
        int seen = 0;
        for (int q = 0; q < places; q++) {
            if (in(p - q, low[t], high[t])) {
                seen |= 1 << colour(t, q);
            }
        }
        return seen;
    }

    int blurred() {
        int blurred = 0;
        for (int t = 0; t < threads; t++) {
            for (int p = 0; p < places; p++) {
                blurred += seen(t, p) == 1 << wanted[t][p] ? 0 : 1;
            }
        }
        return blurred;
    }

    int law(int day, int c, int rank) {
        if (laws.size() == 60 || !in(day, 0, 9999) || !in(c, 0, 15) || !in(rank, 0, 9)) {
            return NONE;
        }
        laws.add(new int[] {day, c, rank});
        return laws.size();
    }

    int rank(int day) {
        argument(in(day, 0, 9999));
        int greatest = 0;
        for (int t = 0; t < threads; t++) {
            for (int p = 0; p < places; p++) {
                greatest = Math.max(greatest, inForce(day, colour(t, p)));
            }
        }
        return greatest;
    }

    private int inForce(int day, int c) {
        for (int d = day; d >= 0; d--) {
            for (int i = laws.size() - 1; i >= 0; i--) {
                if (laws.get(i)[0] == d && laws.get(i)[1] == c) {
                    return laws.get(i)[2];
                }
            }
        }
        return 0;
    }

    int count(int what) {
        if (!in(what, 0, 15)) {
            throw new NoSuchElementException();
        }
        if (what >= 8) {
            return crowd(what - 8);
        }
        return what >= 4 ? strength[what - 4] : new int[] {threads, places, baths, laws.size()}[what];
    }
}
