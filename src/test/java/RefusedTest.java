import java.util.LinkedHashMap;
import java.util.Map;

/**
 * Each call that is refused, on objects in several states: what it throws or answers, and that nothing has changed by
 * it. For that a twin is made by the same calls less the refused one, and both are asked for all that they hold.
 */
public final class RefusedTest {
    private static final String INDEX = "throws.IndexOutOfBoundsException";
    private static final String ARGUMENT = "throws.IllegalArgumentException";
    private static final String ELEMENT = "throws.NoSuchElementException";
    private static final int MIN = Integer.MIN_VALUE;
    private static final int MAX = Integer.MAX_VALUE;
    private static final int ROW = 1 + 2 * 8;

    private interface State {
        TiedFrame make();
    }

    private interface Call {
        Object on(TiedFrame x);
    }

    private final String name;
    private final State state;
    private final int threads;
    private final int places;

    private RefusedTest(String name, State state) {
        this.name = name;
        this.state = state;
        threads = state.make().count(0);
        places = state.make().count(1);
    }

    public static void main(String[] args) {
        Map<String, State> states = new LinkedHashMap<>();
        states.put("new", TiedFrame::new);
        states.put("with a plan", () -> busy(9, 11, true));
        states.put("without a plan", () -> busy(50, 50, false));
        states.put("carried out", RefusedTest::carriedOut);
        states.forEach((name, state) -> new RefusedTest(name, state).wrongArguments());
        weakBaths();
        weakDyes();
        noPlans();
        vats();
        laws();
        Check.end("RefusedTest");
    }

    /** Three threads in two bundles, one of them folded, dyed and bound, with strengths left in vats 0 and 1. */
    private static TiedFrame busy(int left0, int left1, boolean planned) {
        TiedFrame x = Probe.framed(3, 5);
        x.into(1, 2);
        x.into(2, 2);
        x.fold(2, true);
        x.fold(6, true);
        x.table(3, 2, 9);
        x.vat(0, 9 + left0);
        x.vat(1, 9 + left1);
        x.tie(0, 1, 2);
        x.tie(2, 0, 0);
        x.tie(7, 3, 4);
        x.bath(0);
        x.bath(1);
        x.slip(0, -1, 2);
        x.slip(2, 1, 1);
        x.law(3, 3, 4);
        x.law(3, 3, 6);
        x.law(9999, 0, 2);
        Probe.wantAll(x, 0, 1, 0, 3, 0, 1);
        Probe.wantAll(x, 1, 2, 3, 3, 3, 2);
        Probe.wantAll(x, 2, 2, 3, 3, 3, 2);
        if (planned) {
            x.plan(ROW);
        }
        return x;
    }

    private static TiedFrame carriedOut() {
        TiedFrame x = busy(9, 11, true);
        x.dye();
        return x;
    }

    private void refused(String call, String due, Call refused) {
        TiedFrame tried = state.make();
        TiedFrame twin = state.make();
        String what = name + ": " + call;
        Check.due(what, due, () -> refused.on(tried));
        Check.same(what + " changes nothing", Probe.whole(twin), Probe.whole(tried));
    }

    private interface One {
        Object on(TiedFrame x, int value);
    }

    private void each(String call, String due, int[] wrong, One one) {
        for (int value : wrong) {
            refused(call + " " + value, due, x -> one.on(x, value));
        }
    }

    private void wrongArguments() {
        int[] noThread = {-1, threads, 16, MIN, MAX};
        int[] noPlace = {-1, places, 24, MIN, MAX};
        int[] noBundle = {-1, 8, MIN, MAX};
        int[] noDye = {-1, 4, MIN, MAX};
        int[] noColour = {-1, 16, MIN, MAX};
        each("frame: threads", ARGUMENT, new int[] {0, 17, -1, MIN, MAX}, (x, v) -> {
            x.frame(v, 2);
            return v;
        });
        each("frame: places", ARGUMENT, new int[] {0, 25, -1, MIN, MAX}, (x, v) -> {
            x.frame(2, v);
            return v;
        });
        each("into: thread", INDEX, noThread, (x, v) -> x.into(v, 1));
        each("into: bundle", INDEX, noBundle, (x, v) -> x.into(0, v));
        each("fold", INDEX, noBundle, (x, v) -> x.fold(v, true));
        each("unfold", INDEX, noBundle, (x, v) -> x.fold(v, false));
        each("table: colour", INDEX, noColour, (x, v) -> x.table(v, 0, 7));
        each("table: dye", INDEX, noDye, (x, v) -> x.table(0, v, 7));
        each("table: to", ARGUMENT, noColour, (x, v) -> x.table(0, 0, v));
        each("vat: dye", INDEX, noDye, (x, v) -> x.vat(v, 1));
        each("vat: too little", "-1", new int[] {0, -1, MIN}, (x, v) -> x.vat(0, v));
        each("vat: too much", "-1", new int[] {1000001, MAX}, (x, v) -> x.vat(0, v));
        ranges(noBundle, noPlace);
        each("bath: dye", INDEX, noDye, TiedFrame::bath);
        each("colour: thread", INDEX, noThread, (x, v) -> x.colour(v, 0));
        each("colour: place", INDEX, noPlace, (x, v) -> x.colour(0, v));
        each("bound: bundle", INDEX, noBundle, (x, v) -> x.bound(v, 0));
        each("bound: place", INDEX, noPlace, (x, v) -> x.bound(0, v));
        each("want: thread", INDEX, noThread, (x, v) -> x.want(v, 0, 9));
        each("want: place", INDEX, noPlace, (x, v) -> x.want(0, v, 9));
        each("want: colour", ARGUMENT, noColour, (x, v) -> x.want(0, 0, v));
        each("plan", ARGUMENT, new int[] {-1, 5, 8, 1 + 64, 1 + 5 * 8, 1 + 8 + 64 + 512 + 4096, MIN, MAX}, TiedFrame::plan);
        each("best", ARGUMENT, new int[] {-1, 5, MIN, MAX}, TiedFrame::best);
        each("kept", ELEMENT, new int[] {-1, 3, MIN, MAX}, TiedFrame::kept);
        each("bits: bundle", INDEX, noBundle, (x, v) -> x.bits(v, 0));
        each("bits: place", INDEX, noPlace, (x, v) -> x.bits(0, v));
        slips(noThread);
        each("seen: thread", INDEX, noThread, (x, v) -> x.seen(v, 0));
        each("seen: place", INDEX, noPlace, (x, v) -> x.seen(0, v));
        each("law: day", "-1", new int[] {-1, 10000, MIN, MAX}, (x, v) -> x.law(v, 0, 9));
        each("law: colour", "-1", noColour, (x, v) -> x.law(0, v, 9));
        each("law: rank", "-1", new int[] {-1, 10, MIN, MAX}, (x, v) -> x.law(0, 0, v));
        each("rank", ARGUMENT, new int[] {-1, 10000, MIN, MAX}, TiedFrame::rank);
        each("count", ELEMENT, new int[] {-1, 16, MIN, MAX}, TiedFrame::count);
    }

    private void ranges(int[] noBundle, int[] noPlace) {
        int last = places - 1;
        each("tie: bundle", INDEX, noBundle, (x, v) -> x.tie(v, 0, 0));
        each("tie: from", INDEX, noPlace, (x, v) -> x.tie(0, v, last));
        each("tie: to", INDEX, noPlace, (x, v) -> x.tie(0, 0, v));
        each("untie: bundle", INDEX, noBundle, (x, v) -> x.untie(v, 0, 0));
        each("untie: from", INDEX, noPlace, (x, v) -> x.untie(0, v, last));
        each("untie: to", INDEX, noPlace, (x, v) -> x.untie(0, 0, v));
        if (last > 0) {
            refused("tie: from above to", ARGUMENT, x -> x.tie(0, last, last - 1));
            refused("tie: the last to the first", ARGUMENT, x -> x.tie(2, last, 0));
            refused("untie: from above to", ARGUMENT, x -> x.untie(0, 1, 0));
            refused("untie: the last to the first", ARGUMENT, x -> x.untie(2, last, 0));
        }
    }

    private void slips(int[] noThread) {
        each("slip: thread", INDEX, noThread, (x, v) -> slipped(x, v, -1, 1));
        each("slip: low", ARGUMENT, new int[] {-4, MIN}, (x, v) -> slipped(x, 0, v, 0));
        each("slip: high", ARGUMENT, new int[] {4, MAX}, (x, v) -> slipped(x, 0, 0, v));
        each("slip: low above high", ARGUMENT, new int[] {1, 3, MAX}, (x, v) -> slipped(x, 0, v, 0));
        each("slip: high below low", ARGUMENT, new int[] {-1, -3, MIN}, (x, v) -> slipped(x, 0, 0, v));
    }

    private static Object slipped(TiedFrame x, int thread, int low, int high) {
        x.slip(thread, low, high);
        return "nothing";
    }

    /** "NONE, and nothing changes: it is too weak": a bath of the busy frame takes 9. */
    private static void weakBaths() {
        for (int left = 0; left <= 8; left++) {
            int has = left;
            RefusedTest test = new RefusedTest("vat of " + has, () -> busy(has, has, true));
            test.refused("bath 0", "-1", x -> x.bath(0));
            test.refused("bath 1", "-1", x -> x.bath(1));
            test.refused("bath of a vat that was never filled", "-1", x -> x.bath(2));
        }
        TiedFrame enough = busy(9, 0, true);
        Check.due("just enough", 9, () -> enough.bath(0));
        Check.due("all of it is gone", 0, () -> enough.count(4));
        Check.due("the next is refused", -1, () -> enough.bath(0));
    }

    /** "NONE, and nothing changes: there is no PLAN, or some VAT is too weak": the plan takes 9 and 11. */
    private static void weakDyes() {
        for (int[] left : new int[][] {{8, 11}, {9, 10}, {8, 10}, {0, 11}, {9, 0}, {0, 0}, {999991, 10}, {8, 999991}}) {
            RefusedTest test = new RefusedTest("vats of " + left[0] + " and " + left[1], () -> busy(left[0], left[1], true));
            test.refused("dye", "-1", TiedFrame::dye);
        }
        new RefusedTest("no plan", () -> busy(9, 11, false)).refused("dye", "-1", TiedFrame::dye);
        new RefusedTest("new", TiedFrame::new).refused("dye", "-1", TiedFrame::dye);
        TiedFrame enough = busy(9, 11, true);
        Check.due("just enough for the plan", 20, enough::dye);
        Check.due("vat 0 is empty", 0, () -> enough.count(4));
        Check.due("vat 1 is empty", 0, () -> enough.count(5));
        Check.due("and then too weak", -1, enough::dye);
        Check.due("what it dyed stays", "1 0 3 0 1", () -> Probe.colours(enough, 0));
    }

    /** "NONE, and what was kept stays: none MAKES the picture", also where nothing was kept. */
    private static void noPlans() {
        for (boolean planned : new boolean[] {false, true}) {
            RefusedTest test = new RefusedTest(planned ? "a plan is kept" : "none is kept", () -> busy(9, 11, planned));
            test.each("plan for too few or other dyes", "-1", new int[] {0, 1, 2, 1 + 8, 3 + 4 * 8, 4 + 4 * 8 + 4 * 64 + 4 * 512}, TiedFrame::plan);
            test.each("best of too few baths", "-1", new int[] {0, 1}, TiedFrame::best);
        }
        noneMakes("threads of a bundle part", new int[][] {{2, 0}, {2, 4}});
        noneMakes("what lies on one another parts", new int[][] {{1, 4}, {2, 4}});
    }

    /** Colour 3 is wanted at some places, so that no row can make the picture. */
    private static void noneMakes(String why, int[][] where) {
        RefusedTest test = new RefusedTest(why, () -> {
            TiedFrame x = busy(9, 11, false);
            for (int[] at : where) {
                x.want(at[0], at[1], 3);
            }
            return x;
        });
        test.refused("plan", "-1", x -> x.plan(ROW));
        test.refused("best", "-1", x -> x.best(4));
    }

    /** A vat that is full, or nearly. */
    private static void vats() {
        RefusedTest full = new RefusedTest("full vats", () -> busy(1000000 - 9, 1000000 - 9, true));
        full.refused("vat 1 by what it lost and 1", "-1", x -> x.vat(1, 10));
        full.refused("vat 1 by MAX", "-1", x -> x.vat(1, MAX));
        full.refused("vat 2 by too much", "-1", x -> x.vat(2, 1000001));
        TiedFrame x = busy(1000000 - 9, 1, false);
        Check.due("what was lost fits", 1000000, () -> x.vat(0, 9));
        Check.due("full", 1000000, () -> x.count(4));
        Check.due("not one more", -1, () -> x.vat(0, 1));
        Check.due("the other has room", 1000000, () -> x.vat(1, 999999));
    }

    /** "NONE: there are 60, no such DAY, COLOUR, RANK": also what is in force stays. */
    private static void laws() {
        int[] days = {0, 100, 101, 102, 9998, 9999};
        int[][] wrong = {{-1, 3, 9}, {10000, 3, 9}, {100, -1, 9}, {100, 16, 9}, {100, 3, -1}, {100, 3, 10}};
        for (int told : new int[] {0, 1, 59}) {
            String twin = Probe.laws(lawful(told), days);
            for (int[] law : wrong) {
                TiedFrame x = lawful(told);
                String what = told + " laws: law " + law[0] + " " + law[1] + " " + law[2];
                Check.due(what, -1, () -> x.law(law[0], law[1], law[2]));
                Check.same(what + " changes nothing", twin, Probe.laws(x, days));
            }
            TiedFrame x = lawful(told);
            Check.due("a law behind " + told, told + 1, () -> x.law(101, 3, 9));
            Check.same("it is in force behind " + told, "true", String.valueOf(!twin.equals(Probe.laws(x, days))));
        }
        String twin = Probe.laws(lawful(60), days);
        for (int colour = 0; colour < 16; colour++) {
            TiedFrame x = lawful(60);
            int c = colour;
            Check.due("there are 60, of " + c, -1, () -> x.law(9999, c, 9));
            Check.due("there are 60, of " + c + ", once more", -1, () -> x.law(0, c, 9));
            Check.same("there are 60, of " + c + ": nothing changes", twin, Probe.laws(x, days));
        }
    }

    private static TiedFrame lawful(int laws) {
        TiedFrame x = new TiedFrame();
        for (int told = 0; told < laws; told++) {
            x.law(100 + told % 3, told % 16, told % 8);
        }
        return x;
    }
}
