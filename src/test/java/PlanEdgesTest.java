import java.util.Arrays;

/** The edges of rows, plans, the best of them, and of what is carried out, sentence by sentence. */
public final class PlanEdgesTest {
    private static final int DYES_IN_ORDER = 1 + 2 * 8 + 3 * 64 + 4 * 512;
    private static final int FIRST_DYE_FOUR_TIMES = 1 + 8 + 64 + 512;

    public static void main(String[] args) {
        rowOfNone();
        rowOfFour();
        tiesOfOnePlace();
        tiesSideBySide();
        tiesAtEnds();
        tiesOfFolds();
        foldsMustAgree();
        emptyBundles();
        fromUndyed();
        lesserBits();
        bestOfNone();
        bestOrder();
        bestOfMore();
        bestOfEachRow();
        whatIsKept();
        keptThrough();
        dropped();
        carriedOut();
        carriedOutFromOneVat();
        carriedOutByAll();
        Check.end("PlanEdgesTest");
    }

    private static void due(String what, TiedFrame x, int row, int ties, String bits) {
        Check.due(what + ": ties", ties, () -> x.plan(row));
        Check.due(what + ": bits", bits, () -> Probe.bits(x, 0));
        Check.due(what + ": the row", row, () -> x.kept(0));
        Check.due(what + ": kept ties", ties, () -> x.kept(2));
    }

    /** A row of no baths makes what is undyed, and nothing else. */
    private static void rowOfNone() {
        TiedFrame x = Probe.framed(2, 3);
        due("no baths", x, 0, 0, "0 0 0");
        Check.due("no baths: how many", 0, () -> x.kept(1));
        Check.due("no baths: nothing lost", 0, x::dye);
        x.want(1, 2, 1);
        Check.due("no baths don't make a colour", -1, () -> x.plan(0));
        Check.due("no baths, the best", -1, () -> x.best(0));
        x.want(1, 2, 0);
        Check.due("no baths, the best of none", 0, () -> x.best(0));
        Check.due("no baths, its row", 0, () -> x.kept(0));
        // Dyes that leave what is undyed make no difference to it.
        x.table(0, 2, 0);
        due("a bath that dyes nothing", x, 3, 0, "0 0 0");
    }

    /** "at most 4", the first bath's bits lowest, all dyes. */
    private static void rowOfFour() {
        TiedFrame x = Probe.framed(1, 16);
        for (int place = 0; place < 16; place++) {
            x.want(0, place, place);
        }
        x.plan(DYES_IN_ORDER);
        Check.due("four baths", 4, () -> x.kept(1));
        for (int place = 0; place < 16; place++) {
            int p = place;
            Check.due("bound in all but its dyes " + p, 15 - p, () -> x.bits(0, p));
        }
        x.plan(4 + 3 * 8 + 2 * 64 + 1 * 512);
        for (int place = 0; place < 16; place++) {
            int p = place;
            Check.due("dyes the other way round " + p, Integer.reverse(15 - p) >>> 28, () -> x.bits(0, p));
        }
        TiedFrame wide = Probe.framed(16, 24);
        due("undyed through four baths", wide, FIRST_DYE_FOUR_TIMES, 1, EdgesTest.same(15, 24));
        due("the greatest row", wide, 4 + 4 * 8 + 4 * 64 + 4 * 512, 1, EdgesTest.same(15, 24));
    }

    /** By this row each colour is made by one set of bits alone: all baths but those of its dyes. */
    private static int tiesByWords(int[] bits) {
        int ties = 0;
        for (int bath = 0; bath < 4; bath++) {
            boolean inRow = false;
            for (int place : bits) {
                boolean is = (place >> bath & 1) == 1;
                boolean was = bath > 0 && (place >> (bath - 1) & 1) == 1;
                boolean fresh = is && !was;
                ties += fresh && !inRow ? 1 : 0;
                inRow = fresh;
            }
        }
        return ties;
    }

    /** "BOUND in it and were not in the one ahead (in the first: that are BOUND)": all sets of baths. */
    private static void tiesOfOnePlace() {
        int[] due = {0, 1, 1, 1, 1, 2, 1, 1, 1, 2, 2, 2, 1, 2, 1, 1};
        for (int bits = 0; bits < 16; bits++) {
            TiedFrame x = new TiedFrame();
            x.want(0, 0, 15 - bits);
            due("one place of " + bits, x, DYES_IN_ORDER, due[bits], String.valueOf(bits));
            x.fold(0, true);
            due("one folded place of " + bits, x, DYES_IN_ORDER, due[bits], String.valueOf(bits));
        }
    }

    /** "how many rows of PLACES side by side": all pairs, and all that lie between them. */
    private static void tiesSideBySide() {
        for (int a = 0; a < 16; a++) {
            for (int b = 0; b < 16; b++) {
                TiedFrame x = Probe.framed(1, 2);
                Probe.wantAll(x, 0, 15 - a, 15 - b);
                due("pair " + a + " " + b, x, DYES_IN_ORDER, tiesByWords(new int[] {a, b}), a + " " + b);
                for (int c = 0; c < 16; c += 5) {
                    TiedFrame y = Probe.framed(1, 3);
                    Probe.wantAll(y, 0, 15 - a, 15 - c, 15 - b);
                    due("three " + a + " " + c + " " + b, y, DYES_IN_ORDER, tiesByWords(new int[] {a, c, b}), a + " " + c + " " + b);
                }
            }
        }
    }

    /** A row of places may start at the first one and end at the last one. */
    private static void tiesAtEnds() {
        for (int places = 1; places <= 24; places++) {
            TiedFrame x = Probe.framed(1, places);
            due("all bound, " + places, x, 1, 1, EdgesTest.same(1, places));
            int[] want = new int[places];
            Arrays.fill(want, 1);
            Probe.wantAll(x, 0, want);
            due("none bound, " + places, x, 1, 0, EdgesTest.same(0, places));
            x.want(0, 0, 0);
            Check.due("the first alone, " + places, 1, () -> x.plan(1));
            x.want(0, places - 1, 0);
            Check.due("both ends, " + places, places > 2 ? 2 : 1, () -> x.plan(1));
            x.want(0, 0, places > 1 ? 1 : 0);
            Check.due("the last alone, " + places, 1, () -> x.plan(1));
        }
        TiedFrame most = Probe.framed(16, 24);
        for (int thread = 0; thread < 16; thread++) {
            most.into(thread, thread % 8);
        }
        for (int thread = 0; thread < 8; thread++) {
            for (int place = 0; place < 24; place += 2) {
                most.want(thread, place, 1);
                most.want(thread + 8, place, 1);
            }
        }
        Check.due("every other place of all bundles", 8 * 12, () -> most.plan(1));
    }

    /** "of a FOLDED one PLACES 0 to (PLACES - 1) / 2 alone": every other place of that half, on 1 to 24 places. */
    private static void tiesOfFolds() {
        for (int places = 1; places <= 24; places++) {
            for (int odd = 0; odd < 2; odd++) {
                TiedFrame x = Probe.framed(1, places);
                x.fold(0, true);
                StringBuilder bits = new StringBuilder();
                int ties = 0;
                for (int place = 0; place < places; place++) {
                    int half = Math.min(place, places - 1 - place);
                    boolean bound = half % 2 == odd;
                    x.want(0, place, bound ? 0 : 1);
                    bits.append(place == 0 ? "" : " ").append(bound ? 1 : 0);
                    ties += bound && place <= (places - 1) / 2 ? 1 : 0;
                }
                due("folded, every other of " + places, x, 1, ties, bits.toString());
            }
        }
        // At the ends of an even one there are two rows; folded they are one. At its middle there is one all the same.
        TiedFrame x = Probe.framed(1, 4);
        Probe.wantAll(x, 0, 0, 1, 1, 0);
        due("both ends, unfolded", x, 1, 2, "1 0 0 1");
        x.fold(0, true);
        due("both ends, folded", x, 1, 1, "1 0 0 1");
        Probe.wantAll(x, 0, 1, 0, 0, 1);
        due("the middle, folded", x, 1, 1, "0 1 1 0");
        x.fold(0, false);
        due("the middle, unfolded", x, 1, 1, "0 1 1 0");
        TiedFrame three = Probe.framed(1, 3);
        three.fold(0, true);
        Probe.wantAll(three, 0, 1, 0, 1);
        due("the middle lies on itself", three, 1, 1, "0 1 0");
    }

    /** "a FOLDED BUNDLE's PLACES that lie on one another have the same bits": each place that parts from its own. */
    private static void foldsMustAgree() {
        for (int places = 1; places <= 24; places++) {
            for (int place = 0; place < places; place++) {
                TiedFrame x = Probe.framed(1, places);
                x.fold(0, true);
                x.want(0, place, 1);
                boolean middle = place == places - 1 - place;
                String where = place + " of " + places;
                Check.due("folded, one parts " + where, middle ? places == 1 ? 0 : 1 : -1, () -> x.plan(1));
                Check.due("folded, the best " + where, middle ? places == 1 ? 0 : 1 : -1, () -> x.best(1));
                x.want(0, places - 1 - place, 1);
                Check.due("folded, both agree " + where, true, () -> x.plan(1) >= 0);
            }
        }
    }

    /** "BUNDLES without THREADS count for nothing, their bits are 0." */
    private static void emptyBundles() {
        TiedFrame x = Probe.framed(2, 3);
        for (int bundle = 1; bundle < 8; bundle += 2) {
            x.fold(bundle, true);
        }
        x.into(0, 3);
        x.into(1, 3);
        Check.due("one bundle has threads", 1, () -> x.plan(FIRST_DYE_FOUR_TIMES));
        for (int bundle = 0; bundle < 8; bundle++) {
            int b = bundle;
            Check.due("bits of " + b, b == 3 ? "15 15 15" : "0 0 0", () -> Probe.bits(x, b));
        }
        // What an earlier plan had there is gone when the threads are.
        x.into(0, 0);
        x.into(1, 7);
        Check.due("two bundles have threads", 2, () -> x.best(0) + x.plan(1));
        Check.due("bits of 3 now", "0 0 0", () -> Probe.bits(x, 3));
        Check.due("bits of 0 now", "1 1 1", () -> Probe.bits(x, 0));
        Check.due("bits of 7 now", "1 1 1", () -> Probe.bits(x, 7));
        Check.due("the vats give nothing", 0, x::dye);
        Check.due("an empty one is not bound", "...", () -> Probe.knots(x, 3));
        Check.due("the last one is", "xxx", () -> Probe.knots(x, 7));
    }

    /** "from undyed": what is dyed and bound now counts for nothing in a plan. */
    private static void fromUndyed() {
        TiedFrame x = Probe.framed(1, 3);
        x.vat(0, 9);
        x.vat(1, 9);
        x.tie(0, 1, 1);
        x.bath(1);
        Probe.wantAll(x, 0, 1, 0, 1);
        due("dyed ahead", x, 1, 1, "0 1 0");
        Check.due("dyed ahead, carried out", 2, x::dye);
        Check.due("dyed ahead, colours", "1 0 1", () -> Probe.colours(x, 0));
    }

    /** "of like ones the first, ... PLACE by PLACE from 0 on, that has the lesser bits where they part" */
    private static void lesserBits() {
        int twice = 1 + 8;
        TiedFrame x = Probe.framed(1, 2);
        Probe.wantAll(x, 0, 1, 1);
        due("not bound at all", x, twice, 0, "0 0");
        Probe.wantAll(x, 0, 1, 0);
        due("the first place's are the lesser", x, twice, 1, "0 3");
        Probe.wantAll(x, 0, 0, 1);
        due("the last place's are the lesser", x, twice, 1, "3 0");
        TiedFrame y = Probe.framed(1, 3);
        Probe.wantAll(y, 0, 0, 1, 0);
        due("fewer ties come first", y, twice, 1, "3 1 3");
        Probe.wantAll(y, 0, 1, 0, 1);
        due("the lesser at both ends", y, twice, 1, "0 3 0");
        // The dye's second bath washes it off: bound in one of the two, the first has the lesser bit.
        TiedFrame z = Probe.framed(2, 2);
        z.table(1, 0, 0);
        z.into(1, 1);
        Probe.wantAll(z, 0, 1, 1);
        Probe.wantAll(z, 1, 0, 1);
        Check.due("washed off", 2, () -> z.plan(twice));
        Check.due("washed off, bundle 0", "1 1", () -> Probe.bits(z, 0));
        Check.due("washed off, bundle 1", "0 1", () -> Probe.bits(z, 1));
        // The lesser bits go ahead at the first place, though the second one's are greater by it.
        TiedFrame w = Probe.framed(1, 2);
        w.table(1, 0, 0);
        Probe.wantAll(w, 0, 0, 1);
        due("0 first", w, twice, 1, "0 1");
        Probe.wantAll(w, 0, 1, 0);
        due("0 last", w, twice, 1, "1 0");
    }

    /** "IllegalArgumentException: most is not 0 to 4"; of none there is a best one only if all is undyed. */
    private static void bestOfNone() {
        for (int most = 0; most <= 4; most++) {
            TiedFrame x = Probe.framed(16, 24);
            int m = most;
            Check.due("nothing wanted, " + m, 0, () -> x.best(m));
            Check.due("nothing wanted, no bath, " + m, 0, () -> x.kept(1));
            x.want(0, 0, 15);
            Check.due("threads part, " + m, -1, () -> x.best(m));
            TiedFrame y = new TiedFrame();
            y.want(0, 0, 15);
            Check.due("four dyes in " + m, m == 4 ? 0 : -1, () -> y.best(m));
            Check.due("four dyes in " + m + ", row", m == 4 ? DYES_IN_ORDER : -1, () -> y.kept(0));
            y.want(0, 0, 7);
            Check.due("three dyes in " + m, m >= 3 ? 0 : -1, () -> y.best(m));
            Check.due("three dyes in " + m + ", row", m >= 3 ? 1 + 2 * 8 + 3 * 64 : -1, () -> y.kept(0));
            y.want(0, 0, 8);
            Check.due("one dye in " + m, m >= 1 ? 0 : -1, () -> y.best(m));
            Check.due("one dye in " + m + ", row", m >= 1 ? 4 : -1, () -> y.kept(0));
        }
    }

    /** "of like ones the one of fewer BATHS, then the one whose DYES are first (the first BATH's first)" */
    private static void bestOrder() {
        for (int first = 0; first < 4; first++) {
            TiedFrame x = Probe.framed(1, 2);
            for (int dye = 0; dye < 4; dye++) {
                x.table(0, dye, dye >= first ? 9 : 0);
            }
            Probe.wantAll(x, 0, 9, 9);
            Check.due("dyes from " + first + " on", 0, () -> x.best(4));
            Check.due("dyes from " + first + " on, row", first + 1, () -> x.kept(0));
            Check.due("dyes from " + first + " on, one bath", 1, () -> x.kept(1));
        }
        // Any order of two dyes does it. As a number the row of dye 1 first is the lesser, but dye 0 goes first.
        TiedFrame two = Probe.framed(1, 1);
        two.want(0, 0, 3);
        Check.due("two dyes", 0, () -> two.best(2));
        Check.due("two dyes, row", 1 + 2 * 8, () -> two.kept(0));
        Check.due("two dyes of four", 0, () -> two.best(4));
        Check.due("two dyes of four, the same row", 1 + 2 * 8, () -> two.kept(0));
        // The last bath's dye decides where all the others are alike.
        TiedFrame last = Probe.framed(1, 1);
        last.table(0, 0, 4);
        last.table(4, 2, 11);
        last.table(4, 3, 11);
        last.want(0, 0, 11);
        Check.due("the last dye", 0, () -> last.best(2));
        Check.due("the last dye, row", 1 + 3 * 8, () -> last.kept(0));
    }

    /** "that for which THE PLAN has the fewest TIES", though it has more baths; and more are not told of. */
    private static void bestOfMore() {
        TiedFrame x = Probe.framed(1, 5);
        Probe.wantAll(x, 0, 1, 0, 1, 0, 1);
        Check.due("one bath", 2, () -> x.best(1));
        Check.due("one bath, row", 1, () -> x.kept(0));
        Check.due("two baths", 1, () -> x.best(2));
        Check.due("two baths, row", 1 + 8, () -> x.kept(0));
        Check.due("two baths, bits", "0 3 1 3 0", () -> Probe.bits(x, 0));
        Check.due("four at most", 1, () -> x.best(4));
        Check.due("four at most, still two", 2, () -> x.kept(1));
        Check.due("one again", 2, () -> x.best(1));
        Check.due("one again is kept", 1, () -> x.kept(0));
    }

    /** "of all ROWS of at most a told number of BATHS": each of the 341 is the best for some table. */
    private static void bestOfEachRow() {
        int rows = 0;
        for (int baths = 0; baths <= 4; baths++) {
            for (int turn = 0; turn < 1 << (2 * baths); turn++) {
                rows++;
                bestIs(baths, turn);
            }
        }
        Check.same("rows", "341", String.valueOf(rows));
    }

    /** Colours 0 to 4 are a stair that only the row's own dyes climb; all others fall off it to 15. */
    private static void bestIs(int baths, int turn) {
        TiedFrame x = Probe.framed(1, 2);
        int row = 0;
        for (int bath = 0; bath < baths; bath++) {
            int right = turn >> (2 * bath) & 3;
            row |= (right + 1) << (3 * bath);
            for (int dye = 0; dye < 4; dye++) {
                x.table(bath, dye, dye == right ? bath + 1 : 15);
            }
        }
        Probe.wantAll(x, 0, baths, baths);
        int due = row;
        if (baths > 0) {
            Check.due("too few for row " + row, -1, () -> x.best(baths - 1));
        }
        Check.due("just as many, row " + row, 0, () -> x.best(baths));
        Check.due("the best is " + row, due, () -> x.kept(0));
        Check.due("four at most, row " + row, 0, () -> x.best(4));
        Check.due("the best of four is " + row, due, () -> x.kept(0));
    }

    /** "the ROW (what 0), how many BATHS (1), TIES (2). NONE: there is no PLAN", for rows of none to four. */
    private static void whatIsKept() {
        TiedFrame x = Probe.framed(1, 2);
        int row = 0;
        for (int baths = 0; baths <= 4; baths++) {
            int n = baths;
            int told = row;
            for (int what = 0; what < 3; what++) {
                int w = what;
                Check.due("no plan " + n + " " + w, -1, () -> x.kept(w));
            }
            Check.due("no bits " + n, "-1 -1", () -> Probe.bits(x, 7));
            Check.due("ties " + n, n == 0 ? 0 : 1, () -> x.plan(told));
            Check.due("row " + n, told, () -> x.kept(0));
            Check.due("baths " + n, n, () -> x.kept(1));
            Check.due("ties kept " + n, n == 0 ? 0 : 1, () -> x.kept(2));
            Check.due("bits " + n, EdgesTest.same((1 << n) - 1, 2), () -> Probe.bits(x, 0));
            x.want(0, 0, 0);
            row |= 4 << (3 * baths);
        }
    }

    /** Only what the document says leaves no plan: nothing else does. */
    private static void keptThrough() {
        TiedFrame x = Probe.framed(2, 3);
        x.into(1, 1);
        Probe.wantAll(x, 0, 1, 0, 1);
        x.plan(1);
        x.vat(0, 100);
        x.tie(0, 0, 2);
        x.untie(0, 1, 1);
        x.bath(0);
        x.slip(0, -3, 3);
        x.law(0, 1, 9);
        x.rank(0);
        x.blurred();
        x.seen(0, 0);
        x.colour(0, 0);
        x.bound(0, 0);
        x.count(15);
        x.kept(0);
        x.bits(0, 0);
        x.plan(2);
        x.best(0);
        Check.due("still kept", 1, () -> x.kept(0));
        Check.due("its baths", 1, () -> x.kept(1));
        Check.due("its ties", 2, () -> x.kept(2));
        Check.due("its bits of 0", "0 1 0", () -> Probe.bits(x, 0));
        Check.due("its bits of 1", "1 1 1", () -> Probe.bits(x, 1));
        Check.due("carried out", 2, x::dye);
        Check.due("kept behind it", 1, () -> x.kept(0));
        Check.due("carried out twice", 2, x::dye);
    }

    /** "(there is no PLAN then)": of frame, into, fold, table, want, also where they tell what is so already. */
    private static void dropped() {
        for (int call = 0; call < 10; call++) {
            TiedFrame x = Probe.framed(2, 2);
            x.plan(1);
            Check.due("a plan ahead of " + call, 1, () -> x.kept(0));
            changed(x, call);
            Check.due("no plan behind " + call, -1, () -> x.kept(0));
            Check.due("no bits behind " + call, -1, () -> x.bits(0, 1));
            Check.due("nothing to carry out behind " + call, -1, x::dye);
        }
    }

    private static void changed(TiedFrame x, int call) {
        switch (call) {
            case 0 -> x.frame(2, 2);
            case 1 -> x.frame(16, 24);
            case 2 -> x.into(1, 1);
            case 3 -> x.into(1, 0);
            case 4 -> x.fold(7, true);
            case 5 -> x.fold(0, false);
            case 6 -> x.table(15, 3, 14);
            case 7 -> x.table(0, 0, 1);
            case 8 -> x.want(1, 1, 15);
            default -> x.want(0, 0, 0);
        }
    }

    /** "all PLACES are undyed and not BOUND; then BATH by BATH: what is to be BOUND is, all else is not, and the BATH." */
    private static void carriedOut() {
        TiedFrame x = Probe.framed(2, 4);
        x.into(1, 5);
        Probe.fillVats(x, 100);
        x.tie(0, 0, 3);
        x.tie(5, 1, 2);
        x.tie(6, 0, 3);
        x.bath(3);
        x.plan(0);
        Check.due("no baths: nothing lost", 0, x::dye);
        Check.due("no baths: undyed", "0 0 0 0", () -> Probe.colours(x, 1));
        for (int bundle = 0; bundle < 8; bundle++) {
            int b = bundle;
            Check.due("no baths: not bound " + b, "....", () -> Probe.knots(x, b));
        }
        Check.due("no baths: none counted", 1, () -> x.count(2));
        x.tie(6, 0, 3);
        Probe.wantAll(x, 0, 2, 1, 0, 3);
        Probe.wantAll(x, 1, 3, 3, 3, 3);
        x.plan(1 + 2 * 8);
        Check.due("two baths: lost", 2 + 4 + 2 + 4, x::dye);
        Check.due("two baths: thread 0", "2 1 0 3", () -> Probe.colours(x, 0));
        Check.due("two baths: thread 1", "3 3 3 3", () -> Probe.colours(x, 1));
        Check.due("two baths: bound as in the last", ".xx.", () -> Probe.knots(x, 0));
        Check.due("two baths: bundle 5", "....", () -> Probe.knots(x, 5));
        Check.due("two baths: without threads", "....", () -> Probe.knots(x, 6));
        Check.due("two baths: counted", 3, () -> x.count(2));
        Check.due("two baths: vat 0", 94, () -> x.count(4));
        Check.due("two baths: vat 1", 94, () -> x.count(5));
        Check.due("two baths: vat 2", 100, () -> x.count(6));
    }

    /** "If some VAT is too weak for all that it must give, nothing is done": four baths of one vat. */
    private static void carriedOutFromOneVat() {
        TiedFrame x = Probe.framed(16, 24);
        x.table(0, 0, 0);
        due("four baths that dye nothing", x, FIRST_DYE_FOUR_TIMES, 0, EdgesTest.same(0, 24));
        x.vat(0, 4 * 384 - 1);
        Check.due("one less than four baths", -1, x::dye);
        Check.due("nothing lost", 4 * 384 - 1, () -> x.count(4));
        Check.due("no baths", 0, () -> x.count(2));
        x.vat(0, 1);
        Check.due("four baths", 4 * 384, x::dye);
        Check.due("all lost", 0, () -> x.count(4));
        Check.due("four are counted", 4, () -> x.count(2));
        Check.due("not once more", -1, x::dye);
    }

    private static void carriedOutByAll() {
        for (int weak = 0; weak < 4; weak++) {
            TiedFrame x = Probe.framed(1, 3);
            Probe.wantAll(x, 0, 15, 15, 15);
            x.best(4);
            for (int dye = 0; dye < 4; dye++) {
                x.vat(dye, dye == weak ? 2 : 3);
            }
            int w = weak;
            Check.due("vat " + w + " is too weak", -1, x::dye);
            Check.due("vat " + w + " too weak: undyed", "0 0 0", () -> Probe.colours(x, 0));
            for (int dye = 0; dye < 4; dye++) {
                int d = dye;
                Check.due("vat " + w + " too weak: " + d + " has its own", d == w ? 2 : 3, () -> x.count(4 + d));
            }
            Check.due("vat " + w + " too weak: still kept", DYES_IN_ORDER, () -> x.kept(0));
            x.vat(w, 1);
            Check.due("vat " + w + " just enough", 12, x::dye);
            Check.due("vat " + w + " dyed", "15 15 15", () -> Probe.colours(x, 0));
        }
        // All is bound: empty vats are enough.
        TiedFrame bound = Probe.framed(16, 24);
        bound.plan(DYES_IN_ORDER);
        Check.due("all bound from empty vats", 0, bound::dye);
        Check.due("four baths all the same", 4, () -> bound.count(2));
        Check.due("all bound", "x".repeat(24), () -> Probe.knots(bound, 0));
    }
}
