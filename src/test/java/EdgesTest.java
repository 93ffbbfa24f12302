import java.util.Arrays;
import java.util.stream.Collectors;
import java.util.stream.IntStream;

/**
 * The document sentence by sentence, where one names an edge: what there is at first, what is empty, what is full, what
 * lies at an end or on a fold, what is undone. (Plans: PlanEdgesTest; wrong arguments: BoundsTest; what is refused: RefusedTest.)
 */
public final class EdgesTest {
    public static void main(String[] args) {
        colours();
        tableAtFirst();
        strengths();
        framesOfAllSizes();
        bundles();
        folds();
        bundleWithoutThreads();
        tieEnds();
        bathLoss();
        bathWeak();
        undoneByInto();
        undoneByFold();
        undoneByFrame();
        wantedAtFirst();
        slipEnds();
        seenBeyondEnds();
        blurredEnds();
        lawsByDay();
        lawsFull();
        rankOfColours();
        counts();
        lastCall();
        Check.end("EdgesTest");
    }

    static String same(int what, int times) {
        return IntStream.range(0, times).mapToObj(k -> String.valueOf(what)).collect(Collectors.joining(" "));
    }

    /** "COLOURS 0 to 15; undyed is 0." */
    private static void colours() {
        TiedFrame x = new TiedFrame();
        Probe.fillVats(x, 9);
        Check.due("undyed", 0, () -> x.colour(0, 0));
        int[] over = {1, 3, 7, 15};
        for (int dye = 0; dye < 4; dye++) {
            int d = dye;
            x.bath(d);
            Check.due("colour over colour, dye " + d, over[d], () -> x.colour(0, 0));
            Check.due("the bit of it, dye " + d, 1 << over[d], () -> x.seen(0, 0));
        }
        x.bath(0);
        Check.due("the last colour stays by the first table", 15, () -> x.colour(0, 0));
        Check.due("the last is wanted", 0, () -> x.want(0, 0, 15));
        Check.due("and seen", 0, x::blurred);
        Check.due("the last told", 15, () -> x.table(15, 3, 0));
        x.bath(3);
        Check.due("from the last to undyed", 0, () -> x.colour(0, 0));
        Check.due("undyed is a bit, too", 1, () -> x.seen(0, 0));
        x.table(0, 3, 15);
        x.bath(3);
        Check.due("from undyed to the last", 15, () -> x.colour(0, 0));
    }

    /** "THE TABLE ...: at first the one whose bits are c's and bit d." */
    private static void tableAtFirst() {
        for (int colour = 0; colour < 16; colour++) {
            for (int dye = 0; dye < 4; dye++) {
                int c = colour;
                int d = dye;
                TiedFrame x = new TiedFrame();
                Check.due("table at first " + c + " " + d, c | 1 << d, () -> x.table(c, d, 15 - c));
                Check.due("table told " + c + " " + d, 15 - c, () -> x.table(c, d, c));
                Check.due("others stay " + c + " " + d, c | 1 << (d ^ 1), () -> x.table(c, d ^ 1, 0));
                int other = c ^ 1;
                Check.due("other colours stay " + c + " " + d, other | 1 << d, () -> x.table(other, d, 0));
            }
        }
    }

    /** "VATS, one for each DYE, have STRENGTH (0 to 1,000,000; 0 at first)." */
    private static void strengths() {
        TiedFrame x = Probe.framed(16, 24);
        for (int dye = 0; dye < 4; dye++) {
            int d = dye;
            Check.due("empty at first " + d, 0, () -> x.count(4 + d));
            Check.due("nothing from it " + d, -1, () -> x.bath(d));
            Check.due("filled at once " + d, 1000000, () -> x.vat(d, 1000000));
            Check.due("no drop more " + d, -1, () -> x.vat(d, 1));
            Check.due("full " + d, 1000000, () -> x.count(4 + d));
            Check.due("a bath of all " + d, 384, () -> x.bath(d));
            Check.due("one too many " + d, -1, () -> x.vat(d, 385));
            Check.due("full again " + d, 1000000, () -> x.vat(d, 384));
        }
    }

    /** "THE FRAME has THREADS (1 to 16) and PLACES (1 to 24) on each": the last of both is there, none behind it. */
    private static void framesOfAllSizes() {
        for (int threads = 1; threads <= 16; threads++) {
            for (int places = 1; places <= 24; places++) {
                int t = threads;
                int p = places;
                String size = t + " of " + p;
                TiedFrame x = Probe.framed(t, p);
                x.vat(0, t * p);
                Check.due("all of it " + size, t * p, () -> x.bath(0));
                Check.due("the last place " + size, 1, () -> x.colour(t - 1, p - 1));
                Check.noIndex("no thread behind " + size, () -> x.colour(t, p - 1));
                Check.noIndex("no place behind " + size, () -> x.colour(t - 1, p));
                Check.noIndex("no place to tie behind " + size, () -> x.tie(0, p - 1, p));
                Check.due("all blurred " + size, t * p, x::blurred);
                Check.due("in bundle 0 " + size, t, () -> x.count(8));
            }
        }
    }

    /** "BUNDLES 0 to 7: each THREAD is in one (0 at first)." */
    private static void bundles() {
        TiedFrame x = Probe.framed(16, 1);
        for (int thread = 0; thread < 16; thread++) {
            int t = thread;
            Check.due("in 0 at first " + t, 0, () -> x.into(t, 7));
            Check.due("fewer in 0 " + t, 15 - t, () -> x.count(8));
            Check.due("more in 7 " + t, t + 1, () -> x.count(15));
        }
        for (int bundle = 6; bundle >= 0; bundle--) {
            int b = bundle;
            Check.due("out of the one ahead " + b, b + 1, () -> x.into(15, b));
            Check.due("one in " + b, 1, () -> x.count(8 + b));
            Check.due("15 stay in 7 " + b, 15, () -> x.count(15));
        }
        Check.due("each in one", 16, () -> IntStream.range(8, 16).map(x::count).sum());
    }

    /** "what is done at a PLACE p of it is done at PLACES - 1 - p, too", on frames of 1 to 24 places. */
    private static void folds() {
        for (int places = 1; places <= 24; places++) {
            for (int place = 0; place < places; place++) {
                int p = place;
                int q = places - 1 - place;
                int both = p == q ? 1 : 2;
                String where = p + " of " + places;
                TiedFrame x = Probe.framed(2, places);
                x.fold(0, true);
                char[] knots = ".".repeat(places).toCharArray();
                knots[p] = 'x';
                knots[q] = 'x';
                Check.due("folded tie " + where, both, () -> x.tie(0, p, p));
                Check.due("folded knots " + where, new String(knots), () -> Probe.knots(x, 0));
                Check.due("folded tie from the other side " + where, 0, () -> x.tie(0, q, q));
                x.vat(0, 48);
                Check.due("folded bath " + where, 2 * (places - both), () -> x.bath(0));
                Check.due("undyed under the tie " + where, 0, () -> x.colour(1, q));
                Check.due("folded untie from the other side " + where, both, () -> x.untie(0, q, q));
                Check.due("folded, none is " + where, 0, () -> x.untie(0, p, p));
                Check.due("to the end, folded " + where, Math.min(places, 2 * (q + 1)), () -> x.tie(0, p, p + q));
            }
        }
    }

    /** "Each PLACE of a BUNDLE is BOUND or not, and has a COLOUR ... (also if it has none)"; such a bundle costs nothing. */
    private static void bundleWithoutThreads() {
        TiedFrame x = Probe.framed(2, 4);
        Check.due("empty, tied", 4, () -> x.tie(7, 0, 3));
        Check.due("empty, bound", "xxxx", () -> Probe.knots(x, 7));
        Check.due("empty, untied", 2, () -> x.untie(7, 1, 2));
        Check.due("empty, bound in part", "x..x", () -> Probe.knots(x, 7));
        x.tie(0, 0, 3);
        Check.due("only empty ones are unbound: nothing is lost", 0, () -> x.bath(0));
        x.untie(0, 0, 0);
        Check.due("one place of two threads", -1, () -> x.bath(0));
        x.vat(0, 2);
        Check.due("costs two", 2, () -> x.bath(0));
        x.fold(6, true);
        Check.due("empty and folded", 2, () -> x.tie(6, 3, 3));
        Check.due("empty and folded, bound", "x..x", () -> Probe.knots(x, 6));
        Check.due("a plan has no bits there", 0, () -> x.plan(0));
        Check.due("none at all", "0 0 0 0", () -> Probe.bits(x, 6));
    }

    /** "A TIE, from a PLACE to another one (that, too)": one place, all, those at either end. */
    private static void tieEnds() {
        TiedFrame x = Probe.framed(1, 24);
        Check.due("the first", 1, () -> x.tie(0, 0, 0));
        Check.due("the last", 1, () -> x.tie(0, 23, 23));
        Check.due("both ends", "x" + ".".repeat(22) + "x", () -> Probe.knots(x, 0));
        Check.due("the rest of all", 22, () -> x.tie(0, 0, 23));
        Check.due("all are", 0, () -> x.tie(0, 0, 23));
        Check.due("loose at the start", 2, () -> x.untie(0, 0, 1));
        Check.due("loose at the end", 2, () -> x.untie(0, 22, 23));
        Check.due("between", ".." + "x".repeat(20) + "..", () -> Probe.knots(x, 0));
        Check.due("what is still", 20, () -> x.untie(0, 0, 23));
        Check.due("none is", 0, () -> x.untie(0, 0, 23));
        Check.due("other bundles are not", ".".repeat(24), () -> Probe.knots(x, 1));
    }

    /** "for each such PLACE the VAT loses 1 for each THREAD of the BUNDLE" */
    private static void bathLoss() {
        TiedFrame x = Probe.framed(16, 24);
        x.vat(3, 384 + 383 + 1);
        Check.due("16 threads of 24 places", 384, () -> x.bath(3));
        x.into(15, 7);
        x.tie(7, 23, 23);
        Check.due("one place of one thread less", 383, () -> x.bath(3));
        x.tie(0, 0, 23);
        x.tie(7, 0, 22);
        x.untie(7, 0, 0);
        Check.due("one place of one thread", 1, () -> x.bath(3));
        Check.due("nothing is left", 0, () -> x.count(7));
        x.tie(7, 0, 0);
        Check.due("all bound, from an empty vat", 0, () -> x.bath(3));
        Check.due("each is a bath", 4, () -> x.count(2));
        Check.due("what is bound keeps its colour", 0, () -> x.colour(15, 23));
    }

    /** "a VAT that has not so much can't be used": one less than what is due, and just that. */
    private static void bathWeak() {
        for (int threads : new int[] {1, 2, 16}) {
            for (int places : new int[] {1, 2, 24}) {
                int due = threads * places;
                TiedFrame x = Probe.framed(threads, places);
                String size = threads + " of " + places;
                if (due > 1) {
                    x.vat(2, due - 1);
                }
                Check.due("one less " + size, -1, () -> x.bath(2));
                Check.due("nothing dyed " + size, same(0, places), () -> Probe.colours(x, 0));
                Check.due("nothing lost " + size, due - 1, () -> x.count(6));
                Check.due("no bath " + size, 0, () -> x.count(2));
                x.vat(2, 1);
                Check.due("just so much " + size, due, () -> x.bath(2));
                Check.due("dyed " + size, same(4, places), () -> Probe.colours(x, threads - 1));
                Check.due("empty " + size, 0, () -> x.count(6));
            }
        }
    }

    /** A frame with all that can be undone: knots and colours in several bundles, and a plan. */
    private static TiedFrame dyed() {
        TiedFrame x = Probe.framed(3, 3);
        x.into(1, 1);
        x.into(2, 7);
        x.fold(1, true);
        Probe.fillVats(x, 1000);
        x.tie(0, 0, 0);
        x.tie(1, 0, 0);
        x.tie(4, 1, 2);
        x.bath(0);
        x.slip(1, 0, 1);
        x.want(2, 1, 3);
        x.want(2, 2, 3);
        x.plan(1 + 2 * 8);
        Check.due("dyed: colours", "0 1 1", () -> Probe.colours(x, 0));
        Check.due("dyed: a plan", 1 + 2 * 8, () -> x.kept(0));
        return x;
    }

    private static void nothingDyedOrBound(String by, TiedFrame x) {
        for (int thread = 0; thread < x.count(0); thread++) {
            int t = thread;
            Check.due(by + ": undyed " + t, same(0, x.count(1)), () -> Probe.colours(x, t));
        }
        for (int bundle = 0; bundle < 8; bundle++) {
            int b = bundle;
            Check.due(by + ": not bound " + b, ".".repeat(x.count(1)), () -> Probe.knots(x, b));
            Check.due(by + ": no bits " + b, same(-1, x.count(1)), () -> Probe.bits(x, b));
        }
        Check.due(by + ": no row", -1, () -> x.kept(0));
        Check.due(by + ": no baths", -1, () -> x.kept(1));
        Check.due(by + ": no ties", -1, () -> x.kept(2));
        Check.due(by + ": nothing to carry out", -1, x::dye);
    }

    private static void nothingElseUndone(String by, TiedFrame x) {
        Check.due(by + ": baths stay", 1, () -> x.count(2));
        Check.due(by + ": vats stay", 1000 - 6, () -> x.count(4));
        Check.due(by + ": other vats stay", 1000, () -> x.count(7));
    }

    /** "When a THREAD comes into a BUNDLE all PLACES of all BUNDLES are undyed and none is BOUND" */
    private static void undoneByInto() {
        for (int bundle = 0; bundle < 8; bundle++) {
            for (int thread = 0; thread < 3; thread++) {
                TiedFrame x = dyed();
                int t = thread;
                int b = bundle;
                String by = "into " + t + " " + b;
                Check.due(by, new int[] {0, 1, 7}[t], () -> x.into(t, b));
                nothingDyedOrBound(by, x);
                nothingElseUndone(by, x);
                Check.due(by + ": WANTED stays", 3, () -> x.want(2, 1, 3));
                Check.due(by + ": the fold stays", true, () -> x.fold(1, true));
                Check.due(by + ": it is there", b, () -> x.into(t, b));
            }
        }
    }

    /** "so it is when a BUNDLE is FOLDED or unfolded" */
    private static void undoneByFold() {
        for (int bundle = 0; bundle < 8; bundle++) {
            for (boolean is : new boolean[] {false, true}) {
                TiedFrame x = dyed();
                int b = bundle;
                String by = "fold " + b + " " + is;
                Check.due(by, b == 1, () -> x.fold(b, is));
                nothingDyedOrBound(by, x);
                nothingElseUndone(by, x);
                Check.due(by + ": WANTED stays", 3, () -> x.want(2, 1, 3));
                Check.due(by + ": it is so", is, () -> x.fold(b, false));
                Check.due(by + ": threads stay", 7, () -> x.into(2, 7));
            }
        }
    }

    /** "or THE FRAME is set (WANTED is 0 everywhere then, no THREAD SLIPS, all are in BUNDLE 0, none is FOLDED ...)" */
    private static void undoneByFrame() {
        for (int[] size : new int[][] {{3, 3}, {2, 2}, {4, 5}, {1, 1}}) {
            TiedFrame x = dyed();
            String by = "frame " + size[0] + " " + size[1];
            x.frame(size[0], size[1]);
            nothingDyedOrBound(by, x);
            nothingElseUndone(by, x);
            Check.due(by + ": all in 0", size[0], () -> x.count(8));
            Check.due(by + ": none in 1", 0, () -> x.count(9));
            Check.due(by + ": none in 7", 0, () -> x.count(15));
            Check.due(by + ": all is as wanted", 0, x::blurred);
            Check.due(by + ": nothing slips, nothing folded, in 0 each", "0 0", () -> {
                x.tie(0, 0, 0);
                x.bath(0);
                int blurs = 0;
                for (int t = 0; t < size[0]; t++) {
                    for (int p = 0; p < size[1]; p++) {
                        blurs += x.seen(t, p) == 1 << (p == 0 ? 0 : 1) ? 0 : 1;
                    }
                }
                return blurs + " " + x.into(size[0] - 1, 3);
            });
            for (int bundle = 0; bundle < 8; bundle++) {
                int b = bundle;
                Check.due(by + ": not folded " + b, false, () -> x.fold(b, true));
            }
        }
        frameUndoesEach();
        // What lay beyond a smaller frame isn't there when it grows again.
        TiedFrame y = Probe.framed(16, 24);
        y.vat(0, 384);
        y.want(15, 23, 9);
        y.slip(15, 1, 1);
        y.into(15, 7);
        y.bath(0);
        y.frame(1, 1);
        y.frame(16, 24);
        Check.due("grown: undyed", 0, () -> y.colour(15, 23));
        Check.due("grown: nobody slips", 1, () -> y.seen(15, 0));
        Check.due("grown: nothing wanted", 0, () -> y.want(15, 23, 0));
        Check.due("grown: in bundle 0", 0, () -> y.into(15, 0));
    }

    /** Each thread, bundle and place, from the first to the last, was set to something else. */
    private static void frameUndoesEach() {
        TiedFrame x = Probe.framed(16, 2);
        for (int thread = 0; thread < 16; thread++) {
            x.into(thread, 7 - thread / 4);
            x.slip(thread, 1, 1);
            Probe.wantAll(x, thread, 15, 14);
        }
        for (int bundle = 0; bundle < 8; bundle++) {
            x.fold(bundle, true);
        }
        x.frame(16, 2);
        x.vat(0, 16);
        x.tie(0, 0, 0);
        x.bath(0);
        for (int thread = 0; thread < 16; thread++) {
            int t = thread;
            Check.due("frame: doesn't slip " + t, "1 2", () -> x.seen(t, 0) + " " + x.seen(t, 1));
            Check.due("frame: wanted " + t, "0 0", () -> x.want(t, 0, 0) + " " + x.want(t, 1, 0));
        }
        for (int bundle = 0; bundle < 8; bundle++) {
            int b = bundle;
            Check.due("frame: threads of " + b, b == 0 ? 16 : 0, () -> x.count(8 + b));
            Check.due("frame: unfolded " + b, false, () -> x.fold(b, false));
        }
        for (int thread = 0; thread < 16; thread++) {
            int t = thread;
            Check.due("frame: in bundle 0 " + t, 0, () -> x.into(t, 0));
        }
    }

    /** "WANTED is a COLOUR for each THREAD and PLACE (0 at first)." */
    private static void wantedAtFirst() {
        TiedFrame x = Probe.framed(16, 24);
        Check.due("as wanted at first", 0, x::blurred);
        int[][] corners = {{0, 0}, {0, 23}, {15, 0}, {15, 23}};
        for (int[] corner : corners) {
            Check.due("wanted at first " + Arrays.toString(corner), 0, () -> x.want(corner[0], corner[1], 15));
        }
        Check.due("only there", 4, x::blurred);
        for (int[] corner : corners) {
            Check.due("wanted " + Arrays.toString(corner), 15, () -> x.want(corner[0], corner[1], 0));
        }
        Check.due("as wanted again", 0, x::blurred);
    }

    /** Colours 0 to 15, place by place, then 0 to 7. */
    private static TiedFrame ladder() {
        TiedFrame x = Probe.framed(2, 24);
        Probe.fillVats(x, 48);
        for (int dye = 0; dye < 4; dye++) {
            for (int place = 0; place < 24; place++) {
                if ((place >> dye & 1) == 0) {
                    x.tie(0, place, place);
                }
            }
            x.bath(dye);
            x.untie(0, 0, 23);
        }
        return x;
    }

    /** "A THREAD SLIPS by some PLACES from low to high (-3 to 3; 0 to 0 at first)": all 28 ways, at all places. */
    private static void slipEnds() {
        for (int from = -3; from <= 3; from++) {
            for (int to = from; to <= 3; to++) {
                TiedFrame x = ladder();
                int low = from;
                int high = to;
                Check.due("0 to 0 at first", 1 << 7, () -> x.seen(1, 23));
                x.slip(1, low, high);
                for (int place = 0; place < 24; place++) {
                    int p = place;
                    int due = 0;
                    for (int by = low; by <= high; by++) {
                        due |= p - by >= 0 && p - by <= 23 ? 1 << ((p - by) % 16) : 0;
                    }
                    Check.due("slips " + low + " to " + high + " at " + p, due, () -> x.seen(1, p));
                    Check.due("the other doesn't", 1 << (p % 16), () -> x.seen(0, p));
                }
                x.slip(1, 0, 0);
                Check.due("slips no more", 1, () -> x.seen(1, 0));
            }
        }
    }

    /** "none beyond its ends": frames too short for a slip show nothing. */
    private static void seenBeyondEnds() {
        for (int places = 1; places <= 5; places++) {
            TiedFrame x = Probe.framed(1, places);
            for (int place = 0; place < places; place++) {
                int p = place;
                int count = places;
                x.slip(0, 3, 3);
                Check.due("3 on, " + p + " of " + places, p >= 3 ? 1 : 0, () -> x.seen(0, p));
                x.slip(0, -3, -3);
                Check.due("3 back, " + p + " of " + places, p + 3 < count ? 1 : 0, () -> x.seen(0, p));
                x.slip(0, -3, 3);
                Check.due("either way, " + p + " of " + places, 1, () -> x.seen(0, p));
            }
        }
    }

    /** "at which what can be SEEN is not just what is WANTED": nothing seen, another, one more, just it. */
    private static void blurredEnds() {
        TiedFrame x = new TiedFrame();
        Check.due("just it", 0, x::blurred);
        x.slip(0, 1, 1);
        Check.due("nothing seen", 1, x::blurred);
        x.slip(0, -1, 1);
        Check.due("just it, the rest beyond the ends", 0, x::blurred);
        x.want(0, 0, 15);
        Check.due("another", 1, x::blurred);
        TiedFrame all = ladder();
        Check.due("but for undyed places all", 2 * 22, all::blurred);
        for (int place = 0; place < 24; place++) {
            all.want(0, place, place % 16);
            all.want(1, place, place % 16);
        }
        Check.due("all as wanted", 0, all::blurred);
        all.slip(1, 0, 1);
        Check.due("one more but at the first place", 23, all::blurred);
        all.slip(1, -3, -3);
        Check.due("all places of the one that slips", 24, all::blurred);
    }

    /** "of those with a DAY not after it that with the latest DAY, of like ones the later told; none: RANK 0" */
    private static void lawsByDay() {
        TiedFrame x = new TiedFrame();
        Check.due("no laws on the first day", 0, () -> x.rank(0));
        Check.due("no laws on the last day", 0, () -> x.rank(9999));
        x.law(9999, 0, 9);
        Check.due("the day ahead of the last", 0, () -> x.rank(9998));
        Check.due("the last day", 9, () -> x.rank(9999));
        x.law(0, 0, 4);
        Check.due("from the first day on", 4, () -> x.rank(0));
        Check.due("up to the day ahead", 4, () -> x.rank(9998));
        Check.due("a later day's, though told ahead", 9, () -> x.rank(9999));
        x.law(0, 0, 2);
        Check.due("the later told, though less", 2, () -> x.rank(0));
        x.law(9999, 0, 0);
        Check.due("rank 0 on the last day", 0, () -> x.rank(9999));
        x.law(5000, 1, 9);
        Check.due("another colour's", 2, () -> x.rank(5000));
        x.law(4999, 0, 7);
        Check.due("a day ahead of it", 2, () -> x.rank(4998));
        Check.due("on its day", 7, () -> x.rank(4999));
        Check.due("a day behind it", 7, () -> x.rank(5000));
    }

    /** "NONE: there are 60" */
    private static void lawsFull() {
        TiedFrame x = new TiedFrame();
        for (int told = 1; told <= 60; told++) {
            int n = told;
            Check.due("law " + n, n, () -> x.law(n, 0, n % 10));
            Check.due("laws " + n, n, () -> x.count(3));
        }
        Check.due("the 61st", -1, () -> x.law(0, 0, 0));
        Check.due("the 62nd", -1, () -> x.law(9999, 15, 9));
        Check.due("still 60", 60, () -> x.count(3));
        for (int day = 0; day <= 62; day++) {
            int d = day;
            Check.due("rank on day " + d, Math.min(d, 60) % 10, () -> x.rank(d));
        }
        x.frame(2, 2);
        Check.due("a new frame has them still", 60, () -> x.count(3));
        Check.due("and takes no more", -1, () -> x.law(1, 1, 1));
    }

    /** "the greatest RANK of all COLOURS that its THREADS have anywhere" */
    private static void rankOfColours() {
        TiedFrame x = ladder();
        for (int colour = 0; colour < 16; colour++) {
            int c = colour;
            TiedFrame y = ladder();
            y.law(7, c, 5);
            Check.due("the day ahead, colour " + c, 0, () -> y.rank(6));
            Check.due("anywhere on it, colour " + c, 5, () -> y.rank(7));
            x.law(c, c, Math.min(9, c));
        }
        for (int day = 0; day < 20; day++) {
            int d = day;
            Check.due("the greatest on day " + d, Math.min(9, d), () -> x.rank(d));
        }
        // One place of one thread is enough; a bundle without threads is not.
        TiedFrame y = Probe.framed(16, 24);
        y.into(15, 7);
        y.law(0, 1, 9);
        y.vat(0, 1);
        y.tie(0, 0, 23);
        y.tie(7, 0, 22);
        Check.due("no such colour", 0, () -> y.rank(0));
        Check.due("one place", 1, () -> y.bath(0));
        Check.due("one place of one thread", 9, () -> y.rank(0));
        TiedFrame dyed = Probe.framed(1, 2);
        dyed.law(0, 0, 9);
        dyed.tie(7, 0, 1);
        Check.due("undyed", 9, () -> dyed.rank(0));
        dyed.vat(3, 2);
        dyed.bath(3);
        Check.due("nothing undyed on threads, though in other bundles", 0, () -> dyed.rank(0));
        TiedFrame z = Probe.framed(2, 2);
        z.law(0, 1, 9);
        z.tie(0, 0, 1);
        Check.due("only empty bundles take colour", 0, () -> z.bath(0));
        Check.due("and nobody has it", 0, () -> z.rank(0));
    }

    /** "0 THREADS, 1 PLACES, 2 BATHS ever ..., 3 LAWS; 4 on: STRENGTH ...; 8 on: THREADS of the eight BUNDLES." */
    private static void counts() {
        TiedFrame x = new TiedFrame();
        int[] atFirst = {1, 1, 0, 0, 0, 0, 0, 0, 1, 0, 0, 0, 0, 0, 0, 0};
        for (int what = 0; what < 16; what++) {
            int w = what;
            Check.due("count at first " + w, atFirst[w], () -> x.count(w));
        }
        x.frame(16, 24);
        for (int thread = 0; thread < 16; thread++) {
            x.into(thread, thread < 8 ? thread : 7);
        }
        for (int dye = 0; dye < 4; dye++) {
            x.vat(dye, 1000000 - dye);
        }
        x.law(0, 0, 0);
        int[] then = {16, 24, 0, 1, 1000000, 999999, 999998, 999997, 1, 1, 1, 1, 1, 1, 1, 9};
        for (int what = 0; what < 16; what++) {
            int w = what;
            Check.due("count then " + w, then[w], () -> x.count(w));
        }
        x.plan(0);
        x.dye();
        Check.due("no bath of a row of none", 0, () -> x.count(2));
        x.plan(1 + 8 + 64 + 512);
        x.dye();
        Check.due("four baths carried out", 4, () -> x.count(2));
        x.bath(4 - 1);
        Check.due("and one more", 5, () -> x.count(2));
        x.frame(1, 1);
        Check.due("ever", 5, () -> x.count(2));
    }

    /** "An object is used for at most 512 calls": the 512th still answers. */
    private static void lastCall() {
        TiedFrame x = new TiedFrame();
        x.frame(16, 24);
        for (int call = 2; call <= 509; call++) {
            x.vat(3, 100);
        }
        Check.due("call 510", 50900, () -> x.vat(3, 100));
        Check.due("call 511", 384, () -> x.bath(3));
        Check.due("call 512", 50900 - 384, () -> x.count(7));
    }
}
