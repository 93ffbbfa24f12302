import java.util.NoSuchElementException;

/** A dyer's frame for tied threads; ../shared/DOC.md has its promises. */
public final class TiedFrame {
    public static final int NONE = -1;

    private static final int COLOURS = 16;
    private static final int DYES = 4;
    private static final int BUNDLES = 8;
    private static final int MOST_THREADS = 16;
    private static final int MOST_PLACES = 24;
    private static final int MOST_STRENGTH = 1000000;
    private static final int MOST_BATHS = 4;
    private static final int MOST_BITS = 1 << MOST_BATHS;
    private static final int MOST_SLIP = 3;
    private static final int MOST_LAWS = 60;
    private static final int LAST_DAY = 9999;
    private static final int HIGHEST_RANK = 9;
    private static final int FIRST_VAT_COUNT = 4;
    private static final int FIRST_BUNDLE_COUNT = FIRST_VAT_COUNT + DYES;

    private final Mixing mixing = new Mixing();
    private final Vats vats = new Vats();
    private final Cloth cloth = new Cloth();
    private final Picture picture = new Picture();
    private final Planner planner = new Planner();
    private final Plan held = new Plan();
    private final Slips slips = new Slips();
    private final Laws laws = new Laws();
    private int bathsEver = 0;

    public TiedFrame() {
        cloth.stretch(1, 1);
    }

    public void frame(int threads, int places) throws IllegalArgumentException {
        if (threads < 1 || threads > MOST_THREADS || places < 1 || places > MOST_PLACES) {
            throw new IllegalArgumentException("threads or places");
        }
        cloth.stretch(threads, places);
        picture.clear();
        slips.clear();
        held.drop();
    }

    public int into(int thread, int bundle) throws IndexOutOfBoundsException {
        needThread(thread);
        needBundle(bundle);
        int was = cloth.bundleOf(thread);
        cloth.move(thread, bundle);
        held.drop();
        return was;
    }

    public boolean fold(int bundle, boolean is) throws IndexOutOfBoundsException {
        needBundle(bundle);
        boolean was = cloth.isFolded(bundle);
        cloth.setFolded(bundle, is);
        held.drop();
        return was;
    }

    public int table(int colour, int dye, int to) throws IndexOutOfBoundsException, IllegalArgumentException {
        if (!isColour(colour)) {
            throw new IndexOutOfBoundsException("colour");
        }
        needDye(dye);
        if (!isColour(to)) {
            throw new IllegalArgumentException("to");
        }
        int told = mixing.comesOf(colour, dye);
        mixing.tell(colour, dye, to);
        held.drop();
        return told;
    }

    public int vat(int dye, int more) throws IndexOutOfBoundsException {
        needDye(dye);
        if (more < 1 || more > MOST_STRENGTH - vats.strengthOf(dye)) {
            return NONE;
        }
        vats.fill(dye, more);
        return vats.strengthOf(dye);
    }

    public int tie(int bundle, int from, int to) throws IndexOutOfBoundsException, IllegalArgumentException {
        needRange(bundle, from, to);
        return cloth.bind(bundle, from, to);
    }

    public int untie(int bundle, int from, int to) throws IndexOutOfBoundsException, IllegalArgumentException {
        needRange(bundle, from, to);
        return cloth.loosen(bundle, from, to);
    }

    public int bath(int dye) throws IndexOutOfBoundsException {
        needDye(dye);
        int loss = cloth.takesUp();
        if (loss > vats.strengthOf(dye)) {
            return NONE;
        }
        vats.lose(dye, loss);
        cloth.dip(dye, mixing);
        bathsEver++;
        return loss;
    }

    public int colour(int thread, int place) throws IndexOutOfBoundsException {
        needThread(thread);
        needPlace(place);
        return cloth.colourAt(thread, place);
    }

    public boolean bound(int bundle, int place) throws IndexOutOfBoundsException {
        needBundle(bundle);
        needPlace(place);
        return cloth.isBound(bundle, place);
    }

    public int want(int thread, int place, int colour) throws IndexOutOfBoundsException, IllegalArgumentException {
        needThread(thread);
        needPlace(place);
        if (!isColour(colour)) {
            throw new IllegalArgumentException("colour");
        }
        int was = picture.wantedAt(thread, place);
        picture.ask(thread, place, colour);
        held.drop();
        return was;
    }

    public int plan(int row) throws IllegalArgumentException {
        if (!isRow(row)) {
            throw new IllegalArgumentException("row");
        }
        if (!planner.aimAt(cloth, picture) || !planner.tryRow(row, mixing)) {
            return NONE;
        }
        planner.writeInto(held, cloth);
        return held.ties();
    }

    public int best(int most) throws IllegalArgumentException {
        if (most < 0 || most > MOST_BATHS) {
            throw new IllegalArgumentException("most");
        }
        if (!planner.aimAt(cloth, picture)) {
            return NONE;
        }
        int row = planner.bestRow(most, mixing);
        if (row == NONE || !planner.tryRow(row, mixing)) {
            return NONE;
        }
        planner.writeInto(held, cloth);
        return held.ties();
    }

    public int kept(int what) throws NoSuchElementException {
        if (what < 0 || what > 2) {
            throw new NoSuchElementException("what");
        }
        if (!held.exists()) {
            return NONE;
        }
        if (what == 0) {
            return held.row();
        }
        return what == 1 ? bathsOf(held.row()) : held.ties();
    }

    public int bits(int bundle, int place) throws IndexOutOfBoundsException {
        needBundle(bundle);
        needPlace(place);
        return held.exists() ? held.bitsAt(bundle, place) : NONE;
    }

    public int dye() {
        if (!held.exists() || !vats.sufficeFor(held, cloth)) {
            return NONE;
        }
        int baths = bathsOf(held.row());
        int lost = 0;
        cloth.wash();
        for (int bath = 0; bath < baths; bath++) {
            int dye = dyeOf(held.row(), bath);
            cloth.bindAs(held, bath);
            int loss = cloth.takesUp();
            vats.lose(dye, loss);
            cloth.dip(dye, mixing);
            lost += loss;
        }
        bathsEver += baths;
        return lost;
    }

    public void slip(int thread, int low, int high) throws IndexOutOfBoundsException, IllegalArgumentException {
        needThread(thread);
        if (low < -MOST_SLIP || low > high || high > MOST_SLIP) {
            throw new IllegalArgumentException("low or high");
        }
        slips.let(thread, low, high);
    }

    public int seen(int thread, int place) throws IndexOutOfBoundsException {
        needThread(thread);
        needPlace(place);
        return slips.showsAt(thread, place, cloth);
    }

    public int blurred() {
        int blurs = 0;
        for (int thread = 0; thread < cloth.threads(); thread++) {
            for (int place = 0; place < cloth.places(); place++) {
                if (slips.showsAt(thread, place, cloth) != 1 << picture.wantedAt(thread, place)) {
                    blurs++;
                }
            }
        }
        return blurs;
    }

    public int law(int day, int colour, int rank) {
        if (laws.size() >= MOST_LAWS || !isDay(day) || !isColour(colour) || rank < 0 || rank > HIGHEST_RANK) {
            return NONE;
        }
        laws.add(day, colour, rank);
        return laws.size();
    }

    public int rank(int day) throws IllegalArgumentException {
        if (!isDay(day)) {
            throw new IllegalArgumentException("day");
        }
        int worn = cloth.coloursWorn();
        int greatest = 0;
        for (int colour = 0; colour < COLOURS; colour++) {
            if ((worn >> colour & 1) != 0) {
                greatest = Math.max(greatest, laws.inForce(day, colour));
            }
        }
        return greatest;
    }

    public int count(int what) throws NoSuchElementException {
        if (what < 0 || what >= FIRST_BUNDLE_COUNT + BUNDLES) {
            throw new NoSuchElementException("what");
        }
        if (what >= FIRST_BUNDLE_COUNT) {
            return cloth.threadsIn(what - FIRST_BUNDLE_COUNT);
        }
        if (what >= FIRST_VAT_COUNT) {
            return vats.strengthOf(what - FIRST_VAT_COUNT);
        }
        switch (what) {
            case 0:
                return cloth.threads();
            case 1:
                return cloth.places();
            case 2:
                return bathsEver;
            default:
                return laws.size();
        }
    }

    private void needThread(int thread) {
        if (thread < 0 || thread >= cloth.threads()) {
            throw new IndexOutOfBoundsException("thread");
        }
    }

    private void needPlace(int place) {
        if (place < 0 || place >= cloth.places()) {
            throw new IndexOutOfBoundsException("place");
        }
    }

    private static void needBundle(int bundle) {
        if (bundle < 0 || bundle >= BUNDLES) {
            throw new IndexOutOfBoundsException("bundle");
        }
    }

    private static void needDye(int dye) {
        if (dye < 0 || dye >= DYES) {
            throw new IndexOutOfBoundsException("dye");
        }
    }

    private void needRange(int bundle, int from, int to) {
        needBundle(bundle);
        needPlace(from);
        needPlace(to);
        if (from > to) {
            throw new IllegalArgumentException("from is above to");
        }
    }

    private static boolean isColour(int colour) {
        return colour >= 0 && colour < COLOURS;
    }

    private static boolean isDay(int day) {
        return day >= 0 && day <= LAST_DAY;
    }

    private static boolean isRow(int row) {
        int baths = bathsOf(row);
        for (int bath = 0; bath < baths; bath++) {
            int dye = dyeOf(row, bath);
            if (dye < 0 || dye >= DYES) {
                return false;
            }
        }
        // Nothing may stand behind the last bath: this refuses gaps, a fifth bath and what is below 0.
        return row >> (3 * baths) == 0;
    }

    /** How many baths a row tells ahead of its first 0. */
    private static int bathsOf(int row) {
        int baths = 0;
        while (baths < MOST_BATHS && dyeOf(row, baths) != NONE) {
            baths++;
        }
        return baths;
    }

    private static int dyeOf(int row, int bath) {
        return (row >> (3 * bath) & 7) - 1;
    }

    /** THE TABLE. */
    private static final class Mixing {
        private final int[] to = new int[COLOURS * DYES];

        Mixing() {
            for (int colour = 0; colour < COLOURS; colour++) {
                for (int dye = 0; dye < DYES; dye++) {
                    to[colour * DYES + dye] = colour | 1 << dye;
                }
            }
        }

        int comesOf(int colour, int dye) {
            return to[colour * DYES + dye];
        }

        void tell(int colour, int dye, int other) {
            to[colour * DYES + dye] = other;
        }
    }

    private static final class Vats {
        private final int[] strength = new int[DYES];
        private final int[] due = new int[DYES];

        int strengthOf(int dye) {
            return strength[dye];
        }

        void fill(int dye, int more) {
            strength[dye] += more;
        }

        void lose(int dye, int loss) {
            strength[dye] -= loss;
        }

        /** Looks at all baths together, for one dye may be used in several of them. */
        boolean sufficeFor(Plan plan, Cloth cloth) {
            for (int dye = 0; dye < DYES; dye++) {
                due[dye] = 0;
            }
            int baths = bathsOf(plan.row());
            for (int bath = 0; bath < baths; bath++) {
                due[dyeOf(plan.row(), bath)] += cloth.wouldTakeUp(plan, bath);
            }
            for (int dye = 0; dye < DYES; dye++) {
                if (due[dye] > strength[dye]) {
                    return false;
                }
            }
            return true;
        }
    }

    /** THE FRAME with its threads, bundles, ties and colours. */
    private static final class Cloth {
        private int threads;
        private int places;
        private final int[] home = new int[MOST_THREADS];
        private final int[] crowd = new int[BUNDLES];
        private final boolean[] folded = new boolean[BUNDLES];
        private final int[] knots = new int[BUNDLES];
        private final int[][] colours = new int[BUNDLES][MOST_PLACES];

        void stretch(int newThreads, int newPlaces) {
            threads = newThreads;
            places = newPlaces;
            for (int thread = 0; thread < MOST_THREADS; thread++) {
                home[thread] = 0;
            }
            for (int bundle = 0; bundle < BUNDLES; bundle++) {
                crowd[bundle] = 0;
                folded[bundle] = false;
            }
            crowd[0] = threads;
            wash();
        }

        /** All places are undyed and none is bound. */
        void wash() {
            for (int bundle = 0; bundle < BUNDLES; bundle++) {
                knots[bundle] = 0;
                for (int place = 0; place < MOST_PLACES; place++) {
                    colours[bundle][place] = 0;
                }
            }
        }

        void move(int thread, int bundle) {
            crowd[home[thread]]--;
            home[thread] = bundle;
            crowd[bundle]++;
            wash();
        }

        void setFolded(int bundle, boolean is) {
            folded[bundle] = is;
            wash();
        }

        int threads() {
            return threads;
        }

        int places() {
            return places;
        }

        int bundleOf(int thread) {
            return home[thread];
        }

        int threadsIn(int bundle) {
            return crowd[bundle];
        }

        boolean isFolded(int bundle) {
            return folded[bundle];
        }

        boolean isBound(int bundle, int place) {
            return (knots[bundle] >> place & 1) != 0;
        }

        int colourAt(int thread, int place) {
            return colours[home[thread]][place];
        }

        /** How many places of a bundle can have bits of their own: of a folded one the first half. */
        int freePlaces(int bundle) {
            return folded[bundle] ? (places + 1) / 2 : places;
        }

        /** The place ahead of the fold that a place lies on, or itself. */
        int underFold(int bundle, int place) {
            return place < freePlaces(bundle) ? place : places - 1 - place;
        }

        private int reach(int bundle, int from, int to) {
            int mask = 0;
            for (int place = from; place <= to; place++) {
                mask |= 1 << place;
                if (folded[bundle]) {
                    mask |= 1 << (places - 1 - place);
                }
            }
            return mask;
        }

        int bind(int bundle, int from, int to) {
            int fresh = reach(bundle, from, to) & ~knots[bundle];
            knots[bundle] |= fresh;
            return Integer.bitCount(fresh);
        }

        int loosen(int bundle, int from, int to) {
            int loose = reach(bundle, from, to) & knots[bundle];
            knots[bundle] &= ~loose;
            return Integer.bitCount(loose);
        }

        void bindAs(Plan plan, int bath) {
            for (int bundle = 0; bundle < BUNDLES; bundle++) {
                knots[bundle] = knotsOf(plan, bundle, bath);
            }
        }

        private int knotsOf(Plan plan, int bundle, int bath) {
            int mask = 0;
            for (int place = 0; place < places; place++) {
                mask |= (plan.bitsAt(bundle, place) >> bath & 1) << place;
            }
            return mask;
        }

        /** What a bath takes from its vat, tied as the cloth is now. */
        int takesUp() {
            int taken = 0;
            for (int bundle = 0; bundle < BUNDLES; bundle++) {
                taken += takenBy(bundle, knots[bundle]);
            }
            return taken;
        }

        int wouldTakeUp(Plan plan, int bath) {
            int taken = 0;
            for (int bundle = 0; bundle < BUNDLES; bundle++) {
                taken += takenBy(bundle, knotsOf(plan, bundle, bath));
            }
            return taken;
        }

        private int takenBy(int bundle, int bundleKnots) {
            return crowd[bundle] * (places - Integer.bitCount(bundleKnots));
        }

        void dip(int dye, Mixing mixing) {
            for (int bundle = 0; bundle < BUNDLES; bundle++) {
                for (int place = 0; place < places; place++) {
                    if (!isBound(bundle, place)) {
                        colours[bundle][place] = mixing.comesOf(colours[bundle][place], dye);
                    }
                }
            }
        }

        /** The colours that threads have anywhere, as bits. */
        int coloursWorn() {
            int worn = 0;
            for (int bundle = 0; bundle < BUNDLES; bundle++) {
                for (int place = 0; place < places && crowd[bundle] > 0; place++) {
                    worn |= 1 << colours[bundle][place];
                }
            }
            return worn;
        }
    }

    /** WANTED. */
    private static final class Picture {
        private final int[][] wanted = new int[MOST_THREADS][MOST_PLACES];

        void clear() {
            for (int thread = 0; thread < MOST_THREADS; thread++) {
                for (int place = 0; place < MOST_PLACES; place++) {
                    wanted[thread][place] = 0;
                }
            }
        }

        int wantedAt(int thread, int place) {
            return wanted[thread][place];
        }

        void ask(int thread, int place, int colour) {
            wanted[thread][place] = colour;
        }
    }

    /** THE PLAN that is kept, if there is one. */
    private static final class Plan {
        private boolean exists = false;
        private int row = 0;
        private int ties = 0;
        private final int[][] bits = new int[BUNDLES][MOST_PLACES];

        void drop() {
            exists = false;
        }

        void begin(int newRow) {
            exists = true;
            row = newRow;
            ties = 0;
        }

        void addTies(int more) {
            ties += more;
        }

        void write(int bundle, int place, int newBits) {
            bits[bundle][place] = newBits;
        }

        boolean exists() {
            return exists;
        }

        int row() {
            return row;
        }

        int ties() {
            return ties;
        }

        int bitsAt(int bundle, int place) {
            return bits[bundle][place];
        }
    }

    /**
     * Finds THE PLAN for a row, and the best row. A tie is counted where a place is FRESHLY bound in a bath (bound,
     * and not in the bath ahead) and the place ahead of it is not, so the cost of a place hangs on nothing but its
     * fresh baths and those of the place ahead: the fewest ties are found from the last place back to the first.
     * A place has at most two fresh baths of four (never two in succession), so what lies ahead of it makes at most
     * two ties of difference: the fewest, and which sets of fresh baths ahead (a bit for each) keep to them or to
     * one more, tell all.
     */
    private static final class Planner {
        private static final int ALL_SETS = (1 << MOST_BITS) - 1;
        private static final int FAR = 1000000;

        private final int[] span = new int[BUNDLES];
        private final int[][] aim = new int[BUNDLES][MOST_PLACES];
        private int aims = 0;

        private int row = 0;
        private final int[] outcome = new int[MOST_BITS];
        private final int[] ways = new int[COLOURS];
        private final int[] freshWays = new int[COLOURS];
        private final int[] fewestFrom = new int[MOST_PLACES + 1];
        private final int[] keepFewest = new int[MOST_PLACES + 1];
        private final int[] addOneAtMost = new int[MOST_PLACES + 1];

        /** Takes the colour that each place must come to; false: some place is to have two colours at once. */
        boolean aimAt(Cloth cloth, Picture picture) {
            for (int bundle = 0; bundle < BUNDLES; bundle++) {
                span[bundle] = cloth.threadsIn(bundle) > 0 ? cloth.freePlaces(bundle) : 0;
                for (int place = 0; place < MOST_PLACES; place++) {
                    aim[bundle][place] = NONE;
                }
            }
            aims = 0;
            for (int thread = 0; thread < cloth.threads(); thread++) {
                int bundle = cloth.bundleOf(thread);
                for (int place = 0; place < cloth.places(); place++) {
                    int colour = picture.wantedAt(thread, place);
                    int where = cloth.underFold(bundle, place);
                    if (aim[bundle][where] != NONE && aim[bundle][where] != colour) {
                        return false;
                    }
                    aim[bundle][where] = colour;
                    aims |= 1 << colour;
                }
            }
            return true;
        }

        /** Looks into what comes of a row's baths; false: some wanted colour doesn't. */
        boolean tryRow(int newRow, Mixing mixing) {
            row = newRow;
            int baths = bathsOf(row);
            outcome[0] = 0;
            for (int bath = 0; bath < baths; bath++) {
                int bit = 1 << bath;
                int dye = dyeOf(row, bath);
                for (int bits = 0; bits < bit; bits++) {
                    outcome[bits | bit] = outcome[bits];
                    outcome[bits] = mixing.comesOf(outcome[bits], dye);
                }
            }
            return gatherWays(1 << baths);
        }

        private boolean gatherWays(int choices) {
            for (int colour = 0; colour < COLOURS; colour++) {
                ways[colour] = 0;
                freshWays[colour] = 0;
            }
            int reached = 0;
            for (int bits = 0; bits < choices; bits++) {
                int colour = outcome[bits];
                ways[colour] |= 1 << bits;
                freshWays[colour] |= 1 << freshOf(bits);
                reached |= 1 << colour;
            }
            return (aims & ~reached) == 0;
        }

        private static int freshOf(int bits) {
            return bits & ~(bits << 1);
        }

        /** Rows are tried in the order in which like ones are preferred, so only fewer ties win. */
        int bestRow(int most, Mixing mixing) {
            int best = NONE;
            int fewest = FAR;
            for (int baths = 0; baths <= most && fewest > 0; baths++) {
                int rows = 1 << (2 * baths);
                for (int turn = 0; turn < rows && fewest > 0; turn++) {
                    int tried = rowOfTurn(turn, baths);
                    if (tryRow(tried, mixing)) {
                        int ties = tiesBelow(fewest);
                        if (ties < fewest) {
                            fewest = ties;
                            best = tried;
                        }
                    }
                }
            }
            return best;
        }

        /** The first bath's dye has the highest two bits of a turn, so turns go by the first bath first. */
        private static int rowOfTurn(int turn, int baths) {
            int told = 0;
            for (int bath = 0; bath < baths; bath++) {
                int dye = turn >> (2 * (baths - 1 - bath)) & 3;
                told |= (dye + 1) << (3 * bath);
            }
            return told;
        }

        /** The ties of the row that was tried; it stops early at the limit, since more can't win. */
        private int tiesBelow(int limit) {
            int ties = 0;
            for (int bundle = 0; bundle < BUNDLES && ties < limit; bundle++) {
                ties += tiesOf(bundle);
            }
            return ties;
        }

        private int tiesOf(int bundle) {
            int end = span[bundle];
            fewestFrom[end] = 0;
            keepFewest[end] = ALL_SETS;
            addOneAtMost[end] = ALL_SETS;
            for (int place = end - 1; place >= 0; place--) {
                weigh(place, freshWays[aim[bundle][place]]);
            }
            return tiesFrom(0, 0);
        }

        /** Finds what a place and those behind it cost, from what those behind it do. */
        private void weigh(int place, int allowed) {
            int ties = fewestFrom[place + 1];
            int cheapest = allowed & keepFewest[place + 1];
            int oneDearer = allowed & addOneAtMost[place + 1];
            for (int more = 1; more <= 2 && cheapest == 0; more++) {
                ties++;
                cheapest = oneDearer;
                oneDearer = allowed;
            }
            fewestFrom[place] = ties;
            keepFewest[place] = withSupersets(cheapest);
            addOneAtMost[place] = withSupersets(oneDearer | lessOneBath(cheapest));
        }

        /** The ties of a place and those behind it, if the place ahead has these fresh baths. */
        private int tiesFrom(int place, int ahead) {
            if ((keepFewest[place] >> ahead & 1) != 0) {
                return fewestFrom[place];
            }
            return fewestFrom[place] + ((addOneAtMost[place] >> ahead & 1) != 0 ? 1 : 2);
        }

        /** Of sets of baths (a bit for each set) also all that hold one of them: ahead of it they save as much. */
        private static int withSupersets(int sets) {
            int all = sets | (sets & 0x5555) << 1;
            all |= (all & 0x3333) << 2;
            all |= (all & 0x0f0f) << 4;
            return all | (all & 0x00ff) << 8;
        }

        /** The sets that come of those told if one bath is left out: ahead of them they cost one tie. */
        private static int lessOneBath(int sets) {
            return (sets & 0xaaaa) >> 1 | (sets & 0xcccc) >> 2 | (sets & 0xf0f0) >> 4 | (sets & 0xff00) >> 8;
        }

        /** Writes THE PLAN for the row that was tried last, which must be one that makes the picture. */
        void writeInto(Plan plan, Cloth cloth) {
            plan.begin(row);
            for (int bundle = 0; bundle < BUNDLES; bundle++) {
                plan.addTies(tiesOf(bundle));
                int ahead = 0;
                for (int place = 0; place < span[bundle]; place++) {
                    int bits = leastBits(place, ahead, ways[aim[bundle][place]]);
                    plan.write(bundle, place, bits);
                    ahead = freshOf(bits);
                }
                for (int place = span[bundle]; place < cloth.places(); place++) {
                    plan.write(bundle, place, span[bundle] == 0 ? 0 : plan.bitsAt(bundle, cloth.underFold(bundle, place)));
                }
            }
        }

        private int leastBits(int place, int ahead, int allowed) {
            int bits = 0;
            while (bits < MOST_BITS - 1 && !keepsFewest(place, ahead, allowed, bits)) {
                bits++;
            }
            return bits;
        }

        private boolean keepsFewest(int place, int ahead, int allowed, int bits) {
            int fresh = freshOf(bits);
            return (allowed >> bits & 1) != 0
                && Integer.bitCount(fresh & ~ahead) + tiesFrom(place + 1, fresh) == tiesFrom(place, ahead);
        }
    }

    private static final class Slips {
        private final int[] lows = new int[MOST_THREADS];
        private final int[] highs = new int[MOST_THREADS];

        void clear() {
            for (int thread = 0; thread < MOST_THREADS; thread++) {
                let(thread, 0, 0);
            }
        }

        void let(int thread, int low, int high) {
            lows[thread] = low;
            highs[thread] = high;
        }

        int showsAt(int thread, int place, Cloth cloth) {
            int shown = 0;
            for (int by = lows[thread]; by <= highs[thread]; by++) {
                int from = place - by;
                if (from >= 0 && from < cloth.places()) {
                    shown |= 1 << cloth.colourAt(thread, from);
                }
            }
            return shown;
        }
    }

    private static final class Laws {
        private final int[] days = new int[MOST_LAWS];
        private final int[] colours = new int[MOST_LAWS];
        private final int[] ranks = new int[MOST_LAWS];
        private int size = 0;

        int size() {
            return size;
        }

        void add(int day, int colour, int rank) {
            days[size] = day;
            colours[size] = colour;
            ranks[size] = rank;
            size++;
        }

        int inForce(int day, int colour) {
            int latest = NONE;
            int rank = 0;
            for (int told = 0; told < size; told++) {
                // Not "later than": of like days the law that was told later is in force.
                if (colours[told] == colour && days[told] <= day && days[told] >= latest) {
                    latest = days[told];
                    rank = ranks[told];
                }
            }
            return rank;
        }
    }
}
