import java.util.TreeSet;

/**
 * Each argument of each call, gone through from below its first right value to beyond its last one, and far beyond:
 * what is wrong throws what the document says (or is NONE), and what is right does neither.
 */
public final class BoundsTest {
    private static final String INDEX = "throws.IndexOutOfBoundsException";
    private static final String ARGUMENT = "throws.IllegalArgumentException";
    private static final String ELEMENT = "throws.NoSuchElementException";
    private static final String NONE = "-1";
    private static final int[][] FRAMES = {{1, 1}, {1, 24}, {16, 1}, {16, 24}, {2, 3}, {15, 23}, {3, 2}};
    private static final int[] FAR = {Integer.MIN_VALUE, Integer.MIN_VALUE + 1, -1000000, -256, -32, 32, 64, 256, 65536,
        65537, 1 << 30, Integer.MAX_VALUE - 1, Integer.MAX_VALUE};

    private interface Call {
        Object on(TiedFrame x, int value);
    }

    private final int threads;
    private final int places;

    private BoundsTest(int[] frame) {
        threads = frame[0];
        places = frame[1];
    }

    public static void main(String[] args) {
        for (int[] frame : FRAMES) {
            BoundsTest test = new BoundsTest(frame);
            test.sets();
            test.ties();
            test.plans();
            test.looks();
            test.slips();
            test.lawsAndCounts();
        }
        frames();
        vats();
        rows();
        Check.end("BoundsTest");
    }

    /** The right values are those from first to last, none else. */
    private void sweep(String name, int first, int last, String wrong, Call call) {
        for (int value = first - 3; value <= last + 3; value++) {
            one(name, value, value >= first && value <= last, wrong, call);
        }
        for (int value : FAR) {
            one(name, value, value >= first && value <= last, wrong, call);
        }
    }

    private void one(String name, int value, boolean right, String wrong, Call call) {
        TiedFrame x = Probe.framed(threads, places);
        String answer = Check.answer(() -> call.on(x, value));
        String what = name + " " + value + " on " + threads + " of " + places;
        if (right) {
            Check.same(what + " is taken (" + answer + ")", "true", String.valueOf(!answer.startsWith("throws") && !answer.equals(NONE)));
        } else {
            Check.same(what, wrong, answer);
        }
    }

    private static Object nothing() {
        return "nothing";
    }

    private void sets() {
        sweep("into: thread", 0, threads - 1, INDEX, (x, v) -> x.into(v, 0));
        sweep("into: the last bundle, thread", 0, threads - 1, INDEX, (x, v) -> x.into(v, 7));
        sweep("into: bundle", 0, 7, INDEX, (x, v) -> x.into(threads - 1, v));
        sweep("fold: bundle", 0, 7, INDEX, (x, v) -> x.fold(v, true));
        sweep("unfold: bundle", 0, 7, INDEX, (x, v) -> x.fold(v, false));
        sweep("table: colour", 0, 15, INDEX, (x, v) -> x.table(v, 3, 15));
        sweep("table: colour, to is wrong, too", 1, 0, INDEX, (x, v) -> v >= 0 && v <= 15 ? x.table(16, 0, 16) : x.table(v, 0, 16));
        sweep("table: dye", 0, 3, INDEX, (x, v) -> x.table(15, v, 0));
        sweep("table: to", 0, 15, ARGUMENT, (x, v) -> x.table(0, 0, v));
        sweep("table: to of the last", 0, 15, ARGUMENT, (x, v) -> x.table(15, 3, v));
        sweep("vat: dye", 0, 3, INDEX, (x, v) -> x.vat(v, 1));
        sweep("bath: dye", 0, 3, INDEX, (x, v) -> {
            Probe.fillVats(x, 384);
            return x.bath(v);
        });
        sweep("want: thread", 0, threads - 1, INDEX, (x, v) -> x.want(v, 0, 15));
        sweep("want: place", 0, places - 1, INDEX, (x, v) -> x.want(threads - 1, v, 0));
        sweep("want: colour", 0, 15, ARGUMENT, (x, v) -> x.want(threads - 1, places - 1, v));
    }

    private void ties() {
        sweep("tie: bundle", 0, 7, INDEX, (x, v) -> x.tie(v, 0, places - 1));
        sweep("tie: place", 0, places - 1, INDEX, (x, v) -> x.tie(7, v, v));
        sweep("tie: from", 0, places - 1, INDEX, (x, v) -> x.tie(0, v, places - 1));
        sweep("tie: to", 0, places - 1, INDEX, (x, v) -> x.tie(0, 0, v));
        sweep("untie: bundle", 0, 7, INDEX, (x, v) -> x.untie(v, 0, places - 1));
        sweep("untie: place", 0, places - 1, INDEX, (x, v) -> x.untie(7, v, v));
        sweep("untie: from", 0, places - 1, INDEX, (x, v) -> x.untie(0, v, places - 1));
        sweep("untie: to", 0, places - 1, INDEX, (x, v) -> x.untie(0, 0, v));
        for (int place = 0; place < places; place++) {
            int to = place;
            TiedFrame x = Probe.framed(threads, places);
            for (int above = to + 1; above < places; above++) {
                int from = above;
                Check.noArgument("tie " + from + " to " + to, () -> x.tie(3, from, to));
                Check.noArgument("untie " + from + " to " + to, () -> x.untie(3, from, to));
            }
            Check.due("tie " + to + " alone", 1, () -> x.tie(3, to, to));
            Check.due("tie from 0 to " + to, to, () -> x.tie(3, 0, to));
            Check.due("tie from " + to + " to the end", places - 1 - to, () -> x.tie(3, to, places - 1));
            Check.due("untie from 0 to " + to, to + 1, () -> x.untie(3, 0, to));
            Check.due("untie from " + to + " to the end", places - 1 - to, () -> x.untie(3, to, places - 1));
        }
    }

    private void plans() {
        sweep("best: most", 0, 4, ARGUMENT, (x, v) -> x.best(v));
        sweep("kept: what", 0, 2, ELEMENT, (x, v) -> {
            x.plan(0);
            return x.kept(v);
        });
        sweep("bits: bundle", 0, 7, INDEX, (x, v) -> {
            x.plan(0);
            return x.bits(v, places - 1);
        });
        sweep("bits: place", 0, places - 1, INDEX, (x, v) -> {
            x.plan(0);
            return x.bits(7, v);
        });
        // Without a plan a wrong argument still throws; a right one is answered with NONE.
        sweep("kept without a plan: what", 0, 2, ELEMENT, (x, v) -> x.kept(v) == TiedFrame.NONE ? nothing() : "?");
        sweep("bits without a plan: bundle", 0, 7, INDEX, (x, v) -> x.bits(v, 0) == TiedFrame.NONE ? nothing() : "?");
        sweep("bits without a plan: place", 0, places - 1, INDEX, (x, v) -> x.bits(0, v) == TiedFrame.NONE ? nothing() : "?");
    }

    private void looks() {
        sweep("colour: thread", 0, threads - 1, INDEX, (x, v) -> x.colour(v, places - 1));
        sweep("colour: place", 0, places - 1, INDEX, (x, v) -> x.colour(threads - 1, v));
        sweep("bound: bundle", 0, 7, INDEX, (x, v) -> x.bound(v, places - 1));
        sweep("bound: place", 0, places - 1, INDEX, (x, v) -> x.bound(7, v));
        sweep("seen: thread", 0, threads - 1, INDEX, (x, v) -> x.seen(v, places - 1));
        sweep("seen: place", 0, places - 1, INDEX, (x, v) -> x.seen(threads - 1, v));
    }

    private void slips() {
        sweep("slip: thread", 0, threads - 1, INDEX, (x, v) -> slipped(x, v, -3, 3));
        sweep("slip: a wrong thread and low above high", 1, 0, INDEX, (x, v) -> slipped(x, v >= 0 && v < threads ? threads : v, 1, 0));
        for (int bound = -3; bound <= 3; bound++) {
            int other = bound;
            sweep("slip to " + other + ": low", -3, other, ARGUMENT, (x, v) -> slipped(x, threads - 1, v, other));
            sweep("slip from " + other + ": high", other, 3, ARGUMENT, (x, v) -> slipped(x, threads - 1, other, v));
        }
        sweep("slip to 4: low", 1, 0, ARGUMENT, (x, v) -> slipped(x, 0, v, 4));
        sweep("slip from -4: high", 1, 0, ARGUMENT, (x, v) -> slipped(x, 0, -4, v));
    }

    private static Object slipped(TiedFrame x, int thread, int low, int high) {
        x.slip(thread, low, high);
        return nothing();
    }

    private void lawsAndCounts() {
        sweep("law: day", 0, 9999, NONE, (x, v) -> x.law(v, 15, 9));
        sweep("law: colour", 0, 15, NONE, (x, v) -> x.law(9999, v, 9));
        sweep("law: rank", 0, 9, NONE, (x, v) -> x.law(0, 0, v));
        sweep("rank: day", 0, 9999, ARGUMENT, (x, v) -> x.rank(v));
        sweep("count: what", 0, 15, ELEMENT, (x, v) -> x.count(v));
    }

    /** "THREADS, PLACES are not as told": 1 to 16, 1 to 24; each pair of them, and what a wrong one leaves. */
    private static void frames() {
        for (int threads = -2; threads <= 19; threads++) {
            for (int places = -2; places <= 27; places++) {
                int t = threads;
                int p = places;
                boolean right = t >= 1 && t <= 16 && p >= 1 && p <= 24;
                TiedFrame x = Probe.framed(5, 6);
                Check.due("frame " + t + " " + p, right ? "nothing" : ARGUMENT, Check.run(() -> x.frame(t, p)));
                Check.due("threads of " + t + " " + p, right ? t : 5, () -> x.count(0));
                Check.due("places of " + t + " " + p, right ? p : 6, () -> x.count(1));
                Check.due("all in bundle 0 of " + t + " " + p, right ? t : 5, () -> x.count(8));
            }
        }
        for (int far : FAR) {
            TiedFrame x = new TiedFrame();
            Check.noArgument("frame " + far + " 1", Check.run(() -> x.frame(far, 1)));
            Check.noArgument("frame 1 " + far, Check.run(() -> x.frame(1, far)));
            Check.noArgument("frame " + far + " " + far, Check.run(() -> x.frame(far, far)));
        }
    }

    /** "more is below 1, or it would have more than 1,000,000", from each of some strengths. */
    private static void vats() {
        for (int has : new int[] {0, 1, 2, 499999, 500000, 999998, 999999, 1000000}) {
            int room = 1000000 - has;
            for (int more : new int[] {Integer.MIN_VALUE, -1000001, -1000000, -has, -1, 0, 1, 2, room - 1, room, room + 1,
                1000000, 1000001, Integer.MAX_VALUE - has, Integer.MAX_VALUE - has + 1, Integer.MAX_VALUE}) {
                for (int dye = 0; dye < 4; dye++) {
                    TiedFrame x = new TiedFrame();
                    int d = dye;
                    if (has > 0) {
                        x.vat(d, has);
                    }
                    boolean right = more >= 1 && more <= room;
                    Check.due("vat " + d + " of " + has + " gets " + more, right ? has + more : -1, () -> x.vat(d, more));
                    Check.due("vat " + d + " of " + has + " has got " + more, right ? has + more : has, () -> x.count(4 + d));
                }
            }
        }
    }

    /** "3 bits for each, the first one lowest, a DYE and 1; 0 behind the last one; at most 4": every number, and far ones. */
    private static void rows() {
        TreeSet<Integer> right = new TreeSet<>();
        right.add(0);
        for (int bath = 0; bath < 4; bath++) {
            for (int row : right.toArray(new Integer[0])) {
                for (int dye = 0; dye < 4; dye++) {
                    if (row == 0 && bath == 0 || row >> (3 * (bath - 1)) > 0 && bath > 0) {
                        right.add(row | (dye + 1) << (3 * bath));
                    }
                }
            }
        }
        Check.due("as many rows", 1 + 4 + 16 + 64 + 256, right::size);
        TiedFrame x = new TiedFrame();
        int calls = 0;
        for (int number = -20; number < 3 * 4096; number++) {
            if (calls++ == 500) {
                calls = 0;
                x = new TiedFrame();
            }
            row(x, number, right.contains(number));
        }
        for (int bit = 12; bit < 32; bit++) {
            for (int low : new int[] {0, 1, 4, 585, 2340}) {
                row(new TiedFrame(), 1 << bit | low, false);
            }
        }
        row(new TiedFrame(), Integer.MAX_VALUE, false);
        row(new TiedFrame(), Integer.MIN_VALUE, false);
    }

    private static void row(TiedFrame x, int number, boolean right) {
        // What is undyed needs one tie, through all baths.
        Check.due("row " + number, right ? number == 0 ? "0" : "1" : ARGUMENT, () -> x.plan(number));
    }
}
