/** One part for each promise of the document: ordinary inputs, its edges, wrong inputs. */
public final class PromisesTest {
    private static final int MIN = Integer.MIN_VALUE;
    private static final int MAX = Integer.MAX_VALUE;

    public static void main(String[] args) {
        newObject();
        frame();
        frameKeeps();
        into();
        fold();
        table();
        vat();
        tie();
        untie();
        bath();
        colour();
        bound();
        want();
        planRows();
        planTies();
        planOrder();
        planFolded();
        planStays();
        best();
        bestOrder();
        planWide();
        kept();
        bits();
        dye();
        dyeWeak();
        slip();
        seen();
        blurred();
        law();
        rank();
        count();
        Check.end("PromisesTest");
    }

    private static void newObject() {
        TiedFrame x = new TiedFrame();
        Check.due("NONE", -1, () -> TiedFrame.NONE);
        Check.due("1 threads", 1, () -> x.count(0));
        Check.due("1 places", 1, () -> x.count(1));
        Check.due("1 baths", 0, () -> x.count(2));
        Check.due("1 laws", 0, () -> x.count(3));
        for (int dye = 0; dye < 4; dye++) {
            int what = 4 + dye;
            Check.due("1 vat", 0, () -> x.count(what));
        }
        Check.due("1 in bundle 0", 1, () -> x.count(8));
        Check.due("1 in bundle 7", 0, () -> x.count(15));
        Check.due("1 undyed", 0, () -> x.colour(0, 0));
        Check.due("1 bound", false, () -> x.bound(0, 0));
        Check.due("1 seen", 1, () -> x.seen(0, 0));
        Check.due("1 blurred", 0, x::blurred);
        Check.due("1 rank", 0, () -> x.rank(9999));
        Check.due("1 kept", -1, () -> x.kept(0));
        Check.due("1 dye without plan", -1, x::dye);
        Check.due("1 wanted", 0, () -> x.want(0, 0, 0));
        Check.due("1 folded", false, () -> x.fold(0, false));
        for (int colour = 0; colour < 16; colour++) {
            for (int dye = 0; dye < 4; dye++) {
                int c = colour;
                int d = dye;
                Check.due("1 table " + c + " " + d, c | 1 << d, () -> x.table(c, d, c));
            }
        }
    }

    private static void frame() {
        TiedFrame x = Probe.framed(3, 5);
        for (int[] wrong : new int[][] {{0, 1}, {17, 1}, {1, 0}, {1, 25}, {-1, 1}, {1, -1}, {MIN, 1}, {1, MAX}}) {
            Check.noArgument("2 frame " + wrong[0] + " " + wrong[1], Check.run(() -> x.frame(wrong[0], wrong[1])));
        }
        Check.due("2 threads stay", 3, () -> x.count(0));
        Check.due("2 places stay", 5, () -> x.count(1));
        Check.due("2 frame 16 24", "nothing", Check.run(() -> x.frame(16, 24)));
        Check.due("2 threads", 16, () -> x.count(0));
        Check.due("2 places", 24, () -> x.count(1));
        Check.due("2 all in bundle 0", 16, () -> x.count(8));
        Check.due("2 the last colour", 0, () -> x.colour(15, 23));
        Check.due("2 frame 1 1", "nothing", Check.run(() -> x.frame(1, 1)));
        Check.noIndex("2 no thread 1 now", () -> x.colour(1, 0));
        Check.noIndex("2 no place 1 now", () -> x.colour(0, 1));
    }

    private static void frameKeeps() {
        TiedFrame x = Probe.framed(3, 4);
        Probe.fillVats(x, 100);
        x.table(0, 0, 9);
        x.law(1, 9, 5);
        x.into(1, 6);
        x.fold(6, true);
        x.tie(6, 0, 0);
        x.bath(0);
        x.slip(0, -1, 1);
        x.slip(2, 1, 3);
        Probe.wantAll(x, 0, 9, 9, 9, 9);
        Probe.wantAll(x, 1, 9, 9, 9, 9);
        Probe.wantAll(x, 2, 9, 9, 9, 9);
        Check.due("2 a plan ahead", 0, () -> x.plan(1));
        x.frame(3, 4);
        Check.due("2 no plan", -1, () -> x.kept(0));
        Check.due("2 no plan to dye", -1, x::dye);
        Check.due("2 nobody wants", 0, () -> x.want(0, 3, 0));
        Check.due("2 undyed", "0 0 0 0", () -> Probe.colours(x, 0));
        Check.due("2 none bound", "....", () -> Probe.knots(x, 6));
        Check.due("2 in bundle 0", 3, () -> x.count(8));
        Check.due("2 none in 6", 0, () -> x.count(14));
        Check.due("2 thread 1 was in 0", 0, () -> x.into(1, 1));
        Check.due("2 none is folded", false, () -> x.fold(6, false));
        Check.due("2 the vat stays", 90, () -> x.count(4));
        Check.due("2 the table stays", 9, () -> x.table(0, 0, 9));
        Check.due("2 laws stay", 1, () -> x.count(3));
        Check.due("2 baths stay", 1, () -> x.count(2));
        x.tie(0, 1, 3);
        x.bath(0);
        Check.due("2 thread 0 no longer slips", 1, () -> x.seen(0, 1));
        Check.due("2 thread 2 neither", 1 << 9, () -> x.seen(2, 0));
    }

    private static void into() {
        TiedFrame x = Probe.framed(3, 2);
        Probe.fillVats(x, 100);
        Check.due("3 into 7", 0, () -> x.into(2, 7));
        Check.due("3 into 3", 7, () -> x.into(2, 3));
        Check.due("3 bundle 0", 2, () -> x.count(8));
        Check.due("3 bundle 3", 1, () -> x.count(11));
        Check.due("3 bundle 7", 0, () -> x.count(15));
        x.tie(5, 0, 1);
        x.bath(1);
        x.plan(0);
        for (int[] wrong : new int[][] {{-1, 0}, {3, 0}, {0, -1}, {0, 8}, {MIN, 0}, {MAX, 0}, {0, MIN}, {0, MAX}}) {
            Check.noIndex("3 into " + wrong[0] + " " + wrong[1], () -> x.into(wrong[0], wrong[1]));
        }
        Check.due("3 wrong ones leave colours", 2, () -> x.colour(0, 0));
        Check.due("3 wrong ones leave the plan", 0, () -> x.kept(0));
        Check.due("3 into its own", 3, () -> x.into(2, 3));
        Check.due("3 its own: undyed", 0, () -> x.colour(0, 0));
        Check.due("3 its own: not bound", "..", () -> Probe.knots(x, 5));
        Check.due("3 its own: no plan", -1, () -> x.kept(0));
        Check.due("3 its own: still one", 1, () -> x.count(11));
    }

    private static void fold() {
        TiedFrame x = Probe.framed(2, 3);
        Probe.fillVats(x, 100);
        x.tie(4, 0, 0);
        x.bath(0);
        x.plan(0);
        Check.noIndex("4 fold -1", () -> x.fold(-1, true));
        Check.noIndex("4 fold 8", () -> x.fold(8, true));
        Check.noIndex("4 fold MIN", () -> x.fold(MIN, false));
        Check.due("4 wrong ones leave the plan", 0, () -> x.kept(0));
        Check.due("4 wrong ones leave colours", 1, () -> x.colour(1, 2));
        Check.due("4 fold", false, () -> x.fold(4, true));
        Check.due("4 undyed", "0 0 0", () -> Probe.colours(x, 0));
        Check.due("4 not bound", "...", () -> Probe.knots(x, 4));
        Check.due("4 no plan", -1, () -> x.kept(0));
        x.tie(4, 0, 0);
        Check.due("4 folded binds both", "x.x", () -> Probe.knots(x, 4));
        x.bath(0);
        x.plan(0);
        Check.due("4 folded again", true, () -> x.fold(4, true));
        Check.due("4 again: undyed", 0, () -> x.colour(0, 0));
        Check.due("4 again: not bound", "...", () -> Probe.knots(x, 4));
        Check.due("4 again: no plan", -1, () -> x.kept(0));
        Check.due("4 unfold", true, () -> x.fold(4, false));
        Check.due("4 is not", false, () -> x.fold(4, false));
        x.tie(4, 0, 0);
        Check.due("4 unfolded binds one", "x..", () -> Probe.knots(x, 4));
        Check.due("4 fold 7", false, () -> x.fold(7, true));
    }

    private static void table() {
        TiedFrame x = new TiedFrame();
        Probe.fillVats(x, 10);
        x.bath(0);
        x.plan(0);
        for (int[] wrong : new int[][] {{-1, 0, 0}, {16, 0, 0}, {0, -1, 0}, {0, 4, 0}, {16, 0, 16}, {0, 4, -1}, {MAX, 0, 0}, {0, MIN, 0}}) {
            Check.noIndex("5 table " + wrong[0] + " " + wrong[1] + " " + wrong[2], () -> x.table(wrong[0], wrong[1], wrong[2]));
        }
        Check.noArgument("5 to 16", () -> x.table(0, 0, 16));
        Check.noArgument("5 to -1", () -> x.table(15, 3, -1));
        Check.due("5 wrong ones leave the plan", 0, () -> x.kept(0));
        Check.due("5 told", 15, () -> x.table(15, 3, 0));
        Check.due("5 no plan", -1, () -> x.kept(0));
        Check.due("5 colours stay", 1, () -> x.colour(0, 0));
        Check.due("5 told now", 0, () -> x.table(15, 3, 15));
        Check.due("5 1 by 1", 3, () -> x.table(1, 1, 8));
        x.bath(1);
        Check.due("5 used", 8, () -> x.colour(0, 0));
        x.plan(0);
        Check.due("5 the same again", 8, () -> x.table(1, 1, 8));
        Check.due("5 the same: no plan", -1, () -> x.kept(0));
    }

    private static void vat() {
        TiedFrame x = new TiedFrame();
        Check.noIndex("6 vat -1", () -> x.vat(-1, 5));
        Check.noIndex("6 vat 4", () -> x.vat(4, 5));
        Check.noIndex("6 vat 4 by 0", () -> x.vat(4, 0));
        Check.due("6 by 0", -1, () -> x.vat(3, 0));
        Check.due("6 by -1", -1, () -> x.vat(3, -1));
        Check.due("6 by MIN", -1, () -> x.vat(3, MIN));
        Check.due("6 by MAX", -1, () -> x.vat(3, MAX));
        Check.due("6 too much", -1, () -> x.vat(3, 1000001));
        Check.due("6 nothing came", 0, () -> x.count(7));
        Check.due("6 by 1", 1, () -> x.vat(3, 1));
        Check.due("6 by all", -1, () -> x.vat(3, 1000000));
        Check.due("6 MAX over", -1, () -> x.vat(3, MAX));
        Check.due("6 to the brim", 1000000, () -> x.vat(3, 999999));
        Check.due("6 over it", -1, () -> x.vat(3, 1));
        Check.due("6 full", 1000000, () -> x.count(7));
        Check.due("6 others are empty", 0, () -> x.count(6));
        Check.due("6 all at once", 1000000, () -> x.vat(0, 1000000));
        x.plan(0);
        x.vat(1, 3);
        Check.due("6 the plan stays", 0, () -> x.kept(0));
    }

    private static void tie() {
        TiedFrame x = Probe.framed(1, 7);
        Check.due("7 tie", 2, () -> x.tie(0, 1, 2));
        Check.due("7 tie over it", 2, () -> x.tie(0, 0, 3));
        Check.due("7 all are", 0, () -> x.tie(0, 0, 3));
        Check.due("7 bound", "xxxx...", () -> Probe.knots(x, 0));
        Check.due("7 another bundle", ".......", () -> Probe.knots(x, 1));
        Check.due("7 without threads", 1, () -> x.tie(7, 6, 6));
        Check.due("7 without threads, bound", "......x", () -> Probe.knots(x, 7));
        x.fold(2, true);
        Check.due("7 folded", 4, () -> x.tie(2, 0, 1));
        Check.due("7 folded, bound", "xx...xx", () -> Probe.knots(x, 2));
        Check.due("7 folded, from behind", 2, () -> x.tie(2, 4, 6));
        Check.due("7 folded, the middle", 1, () -> x.tie(2, 3, 3));
        Check.due("7 folded, all", "xxxxxxx", () -> Probe.knots(x, 2));
        wrongRanges("7", x, true);
        Check.due("7 wrong ones bind nothing", ".......", () -> Probe.knots(x, 0));
        TiedFrame wide = Probe.framed(16, 24);
        Check.due("7 24 places", 24, () -> wide.tie(0, 0, 23));
        wide.fold(0, true);
        Check.due("7 24 folded", 24, () -> wide.tie(0, 0, 11));
    }

    private static void wrongRanges(String promise, TiedFrame x, boolean ties) {
        int[][] places = {{-1, 0, 0}, {8, 0, 0}, {0, -1, 0}, {0, 0, 7}, {0, 7, 7}, {0, 7, 1}, {0, 1, -1}, {8, 2, 1}, {0, MIN, 0}, {0, 0, MAX}};
        for (int[] wrong : places) {
            Check.noIndex(promise + " range " + wrong[0] + " " + wrong[1] + " " + wrong[2],
                () -> ties ? x.tie(wrong[0], wrong[1], wrong[2]) : x.untie(wrong[0], wrong[1], wrong[2]));
        }
        Check.noArgument(promise + " range 0 6 5", () -> ties ? x.tie(0, 6, 5) : x.untie(0, 6, 5));
    }

    private static void untie() {
        TiedFrame x = Probe.framed(1, 7);
        Check.due("8 none is", 0, () -> x.untie(0, 0, 6));
        x.tie(0, 1, 4);
        x.tie(1, 1, 4);
        Check.due("8 untie", 2, () -> x.untie(0, 3, 6));
        Check.due("8 bound", ".xx....", () -> Probe.knots(x, 0));
        Check.due("8 another bundle", ".xxxx..", () -> Probe.knots(x, 1));
        wrongRanges("8", x, false);
        Check.due("8 wrong ones change nothing", ".xx....", () -> Probe.knots(x, 0));
        x.fold(0, true);
        x.tie(0, 0, 6);
        Check.due("8 folded", 4, () -> x.untie(0, 5, 6));
        Check.due("8 folded, bound", "..xxx..", () -> Probe.knots(x, 0));
        Check.due("8 folded, the middle", 1, () -> x.untie(0, 3, 3));
    }

    private static void bath() {
        TiedFrame x = Probe.framed(3, 4);
        x.into(2, 1);
        x.tie(0, 0, 1);
        x.tie(1, 3, 3);
        x.tie(2, 0, 0);
        Check.noIndex("9 bath -1", () -> x.bath(-1));
        Check.noIndex("9 bath 4", () -> x.bath(4));
        x.vat(2, 6);
        Check.due("9 too weak", -1, () -> x.bath(2));
        Check.due("9 nothing changes", "0 0 0 0", () -> Probe.colours(x, 0));
        Check.due("9 nothing is lost", 6, () -> x.count(6));
        Check.due("9 nor counted", 0, () -> x.count(2));
        x.vat(2, 1);
        Check.due("9 just enough", 7, () -> x.bath(2));
        Check.due("9 the vat is empty", 0, () -> x.count(6));
        Check.due("9 counted", 1, () -> x.count(2));
        Check.due("9 bundle 0", "0 0 4 4", () -> Probe.colours(x, 1));
        Check.due("9 bundle 1", "4 4 4 0", () -> Probe.colours(x, 2));
        Check.due("9 still bound", "xx..", () -> Probe.knots(x, 0));
        x.tie(0, 0, 3);
        x.tie(1, 0, 3);
        Check.due("9 nothing to give, from an empty vat", 0, () -> x.bath(3));
        Check.due("9 counted, too", 2, () -> x.count(2));
        x.untie(0, 0, 3);
        x.vat(0, 100);
        x.plan(0);
        Check.due("9 colour over colour", 8, () -> x.bath(0));
        Check.due("9 over", "1 1 5 5", () -> Probe.colours(x, 0));
        Check.due("9 the plan stays", 0, () -> x.kept(0));
    }

    private static void colour() {
        TiedFrame x = Probe.framed(2, 3);
        for (int[] wrong : new int[][] {{-1, 0}, {2, 0}, {0, -1}, {0, 3}, {MIN, 0}, {0, MAX}}) {
            Check.noIndex("10 colour " + wrong[0] + " " + wrong[1], () -> x.colour(wrong[0], wrong[1]));
        }
        Probe.fillVats(x, 50);
        x.tie(0, 2, 2);
        x.bath(3);
        Check.due("10 colours", "8 8 0", () -> Probe.colours(x, 1));
    }

    private static void bound() {
        TiedFrame x = Probe.framed(2, 3);
        for (int[] wrong : new int[][] {{-1, 0}, {8, 0}, {0, -1}, {0, 3}, {MAX, 0}, {0, MIN}}) {
            Check.noIndex("11 bound " + wrong[0] + " " + wrong[1], () -> x.bound(wrong[0], wrong[1]));
        }
        Check.due("11 not", false, () -> x.bound(7, 2));
        x.tie(7, 2, 2);
        Check.due("11 is", true, () -> x.bound(7, 2));
    }

    private static void want() {
        TiedFrame x = Probe.framed(2, 3);
        x.plan(0);
        for (int[] wrong : new int[][] {{-1, 0, 0}, {2, 0, 0}, {0, -1, 0}, {0, 3, 0}, {2, 0, 16}, {0, 3, -1}, {MIN, 0, 0}}) {
            Check.noIndex("12 want " + wrong[0] + " " + wrong[1] + " " + wrong[2], () -> x.want(wrong[0], wrong[1], wrong[2]));
        }
        Check.noArgument("12 colour 16", () -> x.want(0, 0, 16));
        Check.noArgument("12 colour -1", () -> x.want(1, 2, -1));
        Check.due("12 wrong ones leave the plan", 0, () -> x.kept(0));
        Check.due("12 wrong ones want nothing", 0, x::blurred);
        Check.due("12 was", 0, () -> x.want(1, 2, 15));
        Check.due("12 no plan", -1, () -> x.kept(0));
        Check.due("12 was 15", 15, () -> x.want(1, 2, 0));
        x.plan(0);
        Check.due("12 the same", 0, () -> x.want(1, 2, 0));
        Check.due("12 the same: no plan", -1, () -> x.kept(0));
    }

    private static void planRows() {
        TiedFrame x = new TiedFrame();
        for (int wrong : new int[] {-1, 5, 6, 7, 8, 8 + 5, 1 + 64, 1 + 8 + 512, 7 * 512, 1 + 8 + 64 + 5 * 512, 4096, 4096 + 1 + 8 + 64 + 512, 1 << 30 | 1, MIN, MIN + 1, MAX}) {
            Check.noArgument("13 row " + wrong, () -> x.plan(wrong));
        }
        Check.due("13 nothing kept", -1, () -> x.kept(0));
        for (int right : new int[] {0, 1, 4, 1 + 8, 4 + 4 * 8 + 4 * 64, 4 + 4 * 8 + 4 * 64 + 4 * 512, 1 + 8 + 64 + 512}) {
            Check.due("13 row " + right, right == 0 ? 0 : 1, () -> x.plan(right));
            Check.due("13 row kept " + right, right, () -> x.kept(0));
        }
    }

    private static void planTies() {
        TiedFrame x = Probe.framed(1, 6);
        Probe.wantAll(x, 0, 1, 0, 0, 1, 0, 1);
        Check.due("13 no bath", -1, () -> x.plan(0));
        Check.due("13 another dye", -1, () -> x.plan(2));
        Check.due("13 two rows", 2, () -> x.plan(1));
        Check.due("13 bits", "0 1 1 0 1 0", () -> Probe.bits(x, 0));
        // Held through both baths there is nothing new in the second one.
        Probe.wantAll(x, 0, 3, 0, 0, 3, 0, 3);
        Check.due("13 held", 2, () -> x.plan(1 + 2 * 8));
        Check.due("13 held bits", "0 3 3 0 3 0", () -> Probe.bits(x, 0));
        // Bound in the first bath and again in the third, not between: two ties.
        Probe.wantAll(x, 0, 2, 2, 2, 2, 2, 2);
        Check.due("13 anew", 2, () -> x.plan(1 + 2 * 8 + 1 * 64));
        Check.due("13 anew bits", "5 5 5 5 5 5", () -> Probe.bits(x, 0));
        // What was bound ahead parts what is newly bound, for only new places count as side by side.
        Probe.wantAll(x, 0, 1, 0, 1, 1, 1, 1);
        Check.due("13 parted", 3, () -> x.plan(1 + 2 * 8));
        Check.due("13 parted bits", "2 3 2 2 2 2", () -> Probe.bits(x, 0));
        // Two threads of one bundle can't part.
        TiedFrame y = Probe.framed(2, 2);
        y.want(1, 1, 1);
        Check.due("13 unlike threads", -1, () -> y.plan(1));
        y.into(1, 5);
        Check.due("13 parted threads", 2, () -> y.plan(1));
        Check.due("13 bundle 0", "1 1", () -> Probe.bits(y, 0));
        Check.due("13 bundle 5", "1 0", () -> Probe.bits(y, 5));
        Check.due("13 without threads", "0 0", () -> Probe.bits(y, 3));
    }

    private static void planOrder() {
        // One bath does it in either place of the row: the lesser bits bind the first bath.
        TiedFrame x = Probe.framed(1, 3);
        Probe.wantAll(x, 0, 1, 1, 1);
        Check.due("13 not bound at all", 0, () -> x.plan(1 + 8));
        Check.due("13 not bound bits", "0 0 0", () -> Probe.bits(x, 0));
        x.table(1, 0, 0);
        Check.due("13 one of two", 1, () -> x.plan(1 + 8));
        Check.due("13 one of two bits", "1 1 1", () -> Probe.bits(x, 0));
        Probe.wantAll(x, 0, 0, 1, 0);
        Check.due("13 twice is none", 1, () -> x.plan(1 + 8));
        Check.due("13 twice is none bits", "0 1 0", () -> Probe.bits(x, 0));
        Probe.wantAll(x, 0, 1, 0, 1);
        Check.due("13 by the fewest ties first", 1, () -> x.plan(1 + 8));
        Check.due("13 bits by ties", "1 3 1", () -> Probe.bits(x, 0));
    }

    private static void planFolded() {
        TiedFrame x = Probe.framed(1, 5);
        x.fold(0, true);
        Probe.wantAll(x, 0, 0, 1, 0, 1, 0);
        Check.due("13 folded", 2, () -> x.plan(1));
        Check.due("13 folded bits", "1 0 1 0 1", () -> Probe.bits(x, 0));
        Probe.wantAll(x, 0, 0, 1, 1, 1, 0);
        Check.due("13 folded, half counts", 1, () -> x.plan(1));
        Check.due("13 folded, half bits", "1 0 0 0 1", () -> Probe.bits(x, 0));
        Probe.wantAll(x, 0, 0, 1, 1, 1, 1);
        Check.due("13 folded, not alike", -1, () -> x.plan(1));
        TiedFrame even = Probe.framed(1, 4);
        even.fold(0, true);
        Probe.wantAll(even, 0, 1, 0, 0, 1);
        Check.due("13 even", 1, () -> even.plan(1));
        Check.due("13 even bits", "0 1 1 0", () -> Probe.bits(even, 0));
        Probe.wantAll(even, 0, 0, 1, 0, 1);
        Check.due("13 even, not alike", -1, () -> even.plan(1));
        TiedFrame empty = Probe.framed(1, 4);
        empty.fold(6, true);
        Probe.wantAll(empty, 0, 1, 0, 0, 0);
        Check.due("13 an empty fold counts for nothing", 1, () -> empty.plan(1));
        Check.due("13 its bits", "0 0 0 0", () -> Probe.bits(empty, 6));
    }

    private static void planStays() {
        TiedFrame x = Probe.framed(1, 3);
        Probe.wantAll(x, 0, 1, 0, 1);
        x.plan(1);
        Check.due("13 none", -1, () -> x.plan(2));
        Check.noArgument("13 no row", () -> x.plan(9 * 8));
        Check.due("13 stays", 1, () -> x.kept(0));
        Check.due("13 stays with its bits", "0 1 0", () -> Probe.bits(x, 0));
        x.slip(0, -1, 1);
        x.tie(0, 0, 1);
        x.untie(0, 0, 1);
        x.law(1, 1, 1);
        x.vat(0, 9);
        x.bath(0);
        Check.due("13 stays through all that", 1, () -> x.kept(0));
        Check.due("13 and dyes", 2, x::dye);
        Check.due("13 stays when carried out", 1, () -> x.kept(0));
        Check.due("13 bits stay, too", "0 1 0", () -> Probe.bits(x, 0));
    }

    private static void best() {
        TiedFrame x = Probe.framed(1, 3);
        for (int wrong : new int[] {-1, 5, MIN, MAX}) {
            Check.noArgument("14 best " + wrong, () -> x.best(wrong));
        }
        Check.due("14 nothing wanted", 0, () -> x.best(0));
        Check.due("14 no bath", 0, () -> x.kept(1));
        Check.due("14 nothing wanted, 4", 0, () -> x.best(4));
        Check.due("14 still no bath", 0, () -> x.kept(0));
        Probe.wantAll(x, 0, 3, 3, 3);
        Check.due("14 one is not enough", -1, () -> x.best(1));
        Check.due("14 nothing kept", -1, () -> x.kept(0));
        Check.due("14 two are", 0, () -> x.best(2));
        Check.due("14 dyes in order", 1 + 2 * 8, () -> x.kept(0));
        Check.due("14 fewer again", -1, () -> x.best(0));
        Check.due("14 what was kept stays", 1 + 2 * 8, () -> x.kept(0));
        Probe.wantAll(x, 0, 15, 15, 15);
        Check.due("14 three are not enough", -1, () -> x.best(3));
        Check.due("14 four", 0, () -> x.best(4));
        Check.due("14 all four dyes", 1 + 2 * 8 + 3 * 64 + 4 * 512, () -> x.kept(0));
        TiedFrame y = Probe.framed(2, 2);
        y.want(0, 0, 1);
        Check.due("14 unlike threads", -1, () -> y.best(4));
    }

    private static void bestOrder() {
        // Two ties with two baths, fewer with more.
        TiedFrame x = Probe.framed(1, 3);
        Probe.wantAll(x, 0, 1, 0, 2);
        Check.due("14 1 and 2", 2, () -> x.best(2));
        Check.due("14 1 and 2, bits", "2 3 1", () -> Probe.bits(x, 0));
        Check.due("14 1 and 2, row", 1 + 2 * 8, () -> x.kept(0));
        // Dye 1 alone makes it when the table is told so: fewer baths win, though dye 0 is ahead.
        TiedFrame y = Probe.framed(1, 2);
        y.table(0, 3, 3);
        Probe.wantAll(y, 0, 3, 3);
        Check.due("14 fewer baths", 0, () -> y.best(4));
        Check.due("14 fewer baths, row", 4, () -> y.kept(0));
        // The fewest ties come ahead of fewer baths.
        TiedFrame z = Probe.framed(1, 2);
        z.table(0, 0, 5);
        z.table(5, 1, 7);
        z.table(0, 1, 7);
        Probe.wantAll(z, 0, 7, 5);
        Check.due("14 ties", 1, () -> z.best(2));
        Check.due("14 ties, row", 1 + 2 * 8, () -> z.kept(0));
        Check.due("14 ties, bits", "0 2", () -> Probe.bits(z, 0));
        // A later row of as many baths: dye 1 first, so that 1 and 0 are bound anew in the same bath.
        TiedFrame later = Probe.framed(1, 7);
        Probe.wantAll(later, 0, 3, 1, 0, 1, 0, 1, 3);
        Check.due("14 an earlier row", 5, () -> later.plan(1 + 2 * 8));
        Check.due("14 a later row", 1, () -> later.best(2));
        Check.due("14 a later row, row", 2 + 1 * 8, () -> later.kept(0));
        Check.due("14 a later row, bits", "0 1 3 1 3 1 0", () -> Probe.bits(later, 0));
    }

    private static void planWide() {
        TiedFrame x = Probe.framed(16, 24);
        for (int thread = 0; thread < 16; thread++) {
            x.into(thread, thread % 8);
        }
        for (int thread = 0; thread < 16; thread++) {
            for (int place = 0; place < 24; place += 2) {
                x.want(thread, place, 1);
            }
        }
        Check.due("13 wide", 8 * 12, () -> x.plan(1));
        Check.due("13 wide, bits", 1, () -> x.bits(7, 23));
        // Of two baths of one dye all places are bound in the first, half of them stay so: one tie a bundle.
        Check.due("14 wide", 8, () -> x.best(4));
        Check.due("14 wide, row", 1 + 8, () -> x.kept(0));
        x.frame(16, 24);
        Check.due("13 wide, undyed", 1, () -> x.plan(4));
        x.fold(0, true);
        x.want(0, 0, 8);
        Check.due("13 wide, one thread wants another", -1, () -> x.plan(4));
    }

    private static void kept() {
        TiedFrame x = Probe.framed(1, 3);
        for (int wrong : new int[] {-1, 3, MIN, MAX}) {
            Check.noElement("15 kept " + wrong, () -> x.kept(wrong));
        }
        for (int what = 0; what < 3; what++) {
            int asked = what;
            Check.due("15 no plan " + what, -1, () -> x.kept(asked));
        }
        Probe.wantAll(x, 0, 4, 0, 4);
        x.plan(3 + 3 * 8);
        Check.due("15 the row", 3 + 3 * 8, () -> x.kept(0));
        Check.due("15 baths", 2, () -> x.kept(1));
        Check.due("15 ties", 1, () -> x.kept(2));
        Check.noElement("15 kept 3 with a plan", () -> x.kept(3));
    }

    private static void bits() {
        TiedFrame x = Probe.framed(1, 3);
        for (int[] wrong : new int[][] {{-1, 0}, {8, 0}, {0, -1}, {0, 3}, {MIN, 0}, {0, MAX}}) {
            Check.noIndex("16 bits " + wrong[0] + " " + wrong[1], () -> x.bits(wrong[0], wrong[1]));
        }
        Check.due("16 no plan", -1, () -> x.bits(7, 2));
        Probe.wantAll(x, 0, 0, 8, 0);
        x.plan(4);
        Check.due("16 bits", "1 0 1", () -> Probe.bits(x, 0));
        Check.due("16 without threads", 0, () -> x.bits(7, 2));
        Check.noIndex("16 no place, with a plan", () -> x.bits(0, 3));
        x.frame(2, 2);
        Check.due("16 no plan again", -1, () -> x.bits(0, 0));
    }

    private static void dye() {
        TiedFrame x = Probe.framed(3, 3);
        Probe.fillVats(x, 20);
        x.into(2, 4);
        Probe.wantAll(x, 0, 1, 0, 3);
        Probe.wantAll(x, 1, 1, 0, 3);
        Probe.wantAll(x, 2, 2, 2, 2);
        x.tie(0, 0, 2);
        x.tie(6, 0, 2);
        x.bath(3);
        x.plan(1 + 2 * 8);
        Check.due("17 bits of 0", "2 3 0", () -> Probe.bits(x, 0));
        Check.due("17 bits of 4", "1 1 1", () -> Probe.bits(x, 4));
        Check.due("17 lost", 4 + 5, x::dye);
        Check.due("17 bundle 0", "1 0 3", () -> Probe.colours(x, 1));
        Check.due("17 bundle 4", "2 2 2", () -> Probe.colours(x, 2));
        Check.due("17 not blurred", 0, x::blurred);
        Check.due("17 vat 0", 16, () -> x.count(4));
        Check.due("17 vat 1", 15, () -> x.count(5));
        Check.due("17 baths", 3, () -> x.count(2));
        Check.due("17 bound as in the last bath", "xx.", () -> Probe.knots(x, 0));
        Check.due("17 bundle 4 is not", "...", () -> Probe.knots(x, 4));
        Check.due("17 an empty one is not", "...", () -> Probe.knots(x, 6));
        Check.due("17 once more", 9, x::dye);
        Check.due("17 from undyed again", "1 0 3", () -> Probe.colours(x, 0));
        Check.due("17 more baths", 5, () -> x.count(2));
        TiedFrame none = Probe.framed(1, 2);
        Probe.fillVats(none, 9);
        none.bath(0);
        none.tie(0, 0, 0);
        none.plan(0);
        Check.due("17 no baths", 0, none::dye);
        Check.due("17 undyed all the same", "0 0", () -> Probe.colours(none, 0));
        Check.due("17 not bound all the same", "..", () -> Probe.knots(none, 0));
        Check.due("17 no bath more", 1, () -> none.count(2));
    }

    private static void dyeWeak() {
        // Both baths are from one vat: each alone would do, together they don't.
        TiedFrame x = Probe.framed(2, 2);
        x.table(1, 0, 2);
        x.vat(1, 4);
        Probe.wantAll(x, 0, 2, 1);
        Probe.wantAll(x, 1, 2, 1);
        x.tie(0, 0, 0);
        x.bath(1);
        Check.due("17 a plan", 1, () -> x.plan(1 + 8));
        Check.due("17 its bits", "0 1", () -> Probe.bits(x, 0));
        x.vat(0, 5);
        Check.due("17 too weak", -1, x::dye);
        Check.due("17 nothing lost", 5, () -> x.count(4));
        Check.due("17 nothing dyed", "0 2", () -> Probe.colours(x, 0));
        Check.due("17 still bound", "x.", () -> Probe.knots(x, 0));
        Check.due("17 no baths", 1, () -> x.count(2));
        Check.due("17 still kept", 9, () -> x.kept(0));
        x.vat(0, 1);
        Check.due("17 just enough", 6, x::dye);
        Check.due("17 all of it", 0, () -> x.count(4));
        Check.due("17 dyed", "2 1", () -> Probe.colours(x, 0));
        TiedFrame no = new TiedFrame();
        Probe.fillVats(no, 9);
        Check.due("17 no plan", -1, no::dye);
    }

    private static void slip() {
        TiedFrame x = Probe.framed(2, 3);
        Check.noIndex("18 thread -1", Check.run(() -> x.slip(-1, 0, 0)));
        Check.noIndex("18 thread 2", Check.run(() -> x.slip(2, 0, 0)));
        Check.noIndex("18 thread 2 and too far", Check.run(() -> x.slip(2, 4, 0)));
        for (int[] wrong : new int[][] {{-4, 0}, {0, 4}, {1, 0}, {3, -3}, {-4, -4}, {4, 4}, {MIN, MAX}, {MAX, MIN}}) {
            Check.noArgument("18 slip " + wrong[0] + " " + wrong[1], Check.run(() -> x.slip(0, wrong[0], wrong[1])));
        }
        Check.due("18 nothing slips", 1, () -> x.seen(0, 0));
        Check.due("18 -3 to 3", "nothing", Check.run(() -> x.slip(1, -3, 3)));
        Check.due("18 3 to 3", "nothing", Check.run(() -> x.slip(0, 3, 3)));
        Check.due("18 beyond its end", 0, () -> x.seen(0, 2));
        Check.due("18 -3 to -3", "nothing", Check.run(() -> x.slip(0, -3, -3)));
        Check.due("18 beyond the other", 0, () -> x.seen(0, 0));
        Check.due("18 1 still wide", 1, () -> x.seen(1, 0));
    }

    private static void seen() {
        TiedFrame x = Probe.framed(2, 4);
        Probe.fillVats(x, 99);
        // Colours 0, 1, 3, 7 from place 0 on.
        x.tie(0, 0, 0);
        x.bath(0);
        x.tie(0, 1, 1);
        x.bath(1);
        x.tie(0, 2, 2);
        x.bath(2);
        Check.due("19 colours", "0 1 3 7", () -> Probe.colours(x, 0));
        for (int[] wrong : new int[][] {{-1, 0}, {2, 0}, {0, -1}, {0, 4}}) {
            Check.noIndex("19 seen " + wrong[0] + " " + wrong[1], () -> x.seen(wrong[0], wrong[1]));
        }
        Check.due("19 no slip", 1 << 7, () -> x.seen(0, 3));
        x.slip(0, 1, 1);
        Check.due("19 one on", 1 << 3, () -> x.seen(0, 3));
        Check.due("19 one on, at the end", 0, () -> x.seen(0, 0));
        x.slip(0, -1, -1);
        Check.due("19 one back", 1 << 1, () -> x.seen(0, 0));
        Check.due("19 one back, at the end", 0, () -> x.seen(0, 3));
        x.slip(0, -1, 2);
        Check.due("19 from -1 to 2 at 0", 1 | 1 << 1, () -> x.seen(0, 0));
        Check.due("19 from -1 to 2 at 2", 1 | 1 << 1 | 1 << 3 | 1 << 7, () -> x.seen(0, 2));
        Check.due("19 from -1 to 2 at 3", 1 << 1 | 1 << 3 | 1 << 7, () -> x.seen(0, 3));
        Check.due("19 the other doesn't", 1 << 3, () -> x.seen(1, 2));
    }

    private static void blurred() {
        TiedFrame x = Probe.framed(2, 3);
        Probe.fillVats(x, 99);
        Check.due("20 all as wanted", 0, x::blurred);
        x.slip(0, -3, 3);
        Check.due("20 slips among like ones", 0, x::blurred);
        x.slip(1, 2, 2);
        Check.due("20 nothing seen is not what is wanted", 2, x::blurred);
        x.tie(0, 0, 0);
        x.bath(0);
        Check.due("20 wanted 0", 3 + 2, x::blurred);
        Probe.wantAll(x, 0, 0, 1, 1);
        Probe.wantAll(x, 1, 0, 1, 1);
        x.slip(0, 0, 0);
        x.slip(1, 0, 0);
        Check.due("20 as wanted", 0, x::blurred);
        x.slip(0, 0, 1);
        Check.due("20 one is mixed", 1, x::blurred);
    }

    private static void law() {
        TiedFrame x = new TiedFrame();
        for (int[] wrong : new int[][] {{-1, 0, 0}, {10000, 0, 0}, {0, -1, 0}, {0, 16, 0}, {0, 0, -1}, {0, 0, 10}, {MIN, 0, 0}, {0, MAX, 0}, {0, 0, MIN}}) {
            Check.due("21 law " + wrong[0] + " " + wrong[1] + " " + wrong[2], -1, () -> x.law(wrong[0], wrong[1], wrong[2]));
        }
        Check.due("21 none", 0, () -> x.count(3));
        Check.due("21 the greatest", 1, () -> x.law(9999, 15, 9));
        Check.due("21 the least", 2, () -> x.law(0, 0, 0));
        for (int told = 3; told <= 60; told++) {
            int due = told;
            Check.due("21 law " + told, due, () -> x.law(due, 0, due % 10));
        }
        Check.due("21 there are 60", -1, () -> x.law(61, 0, 9));
        Check.due("21 60 are counted", 60, () -> x.count(3));
        Check.due("21 the 60th is in force", 0, () -> x.rank(60));
        Check.due("21 the 59th was", 9, () -> x.rank(59));
        Check.due("21 the 61st isn't", 0, () -> x.rank(61));
    }

    private static void rank() {
        TiedFrame x = Probe.framed(2, 2);
        Probe.fillVats(x, 99);
        Check.noArgument("22 day -1", () -> x.rank(-1));
        Check.noArgument("22 day 10000", () -> x.rank(10000));
        Check.noArgument("22 day MIN", () -> x.rank(MIN));
        Check.due("22 no law", 0, () -> x.rank(0));
        x.law(10, 0, 3);
        x.law(20, 0, 1);
        x.law(10, 0, 2);
        x.law(15, 1, 8);
        Check.due("22 the day ahead", 0, () -> x.rank(9));
        Check.due("22 of like days the later told", 2, () -> x.rank(10));
        Check.due("22 up to the next", 2, () -> x.rank(19));
        Check.due("22 the latest day", 1, () -> x.rank(20));
        Check.due("22 and after", 1, () -> x.rank(9999));
        x.law(12, 0, 5);
        Check.due("22 told later, in force between", 5, () -> x.rank(19));
        Check.due("22 told later, an earlier day", 1, () -> x.rank(20));
        x.tie(0, 0, 0);
        x.bath(0);
        Check.due("22 the greatest of all colours", 8, () -> x.rank(20));
        Check.due("22 of those in force", 5, () -> x.rank(14));
        x.law(9999, 1, 0);
        Check.due("22 laws may come down", 1, () -> x.rank(9999));
        // Colours of a bundle without threads are nobody's.
        TiedFrame y = Probe.framed(1, 2);
        Probe.fillVats(y, 99);
        y.law(0, 0, 9);
        y.law(0, 2, 4);
        y.tie(5, 0, 1);
        y.bath(1);
        Check.due("22 only what threads have", 4, () -> y.rank(0));
        y.fold(1, true);
        Check.due("22 undyed is a colour", 9, () -> y.rank(0));
    }

    private static void count() {
        TiedFrame x = Probe.framed(5, 7);
        for (int wrong : new int[] {-1, 16, MIN, MAX}) {
            Check.noElement("23 count " + wrong, () -> x.count(wrong));
        }
        for (int dye = 0; dye < 4; dye++) {
            x.vat(dye, 100 + dye);
        }
        x.into(1, 1);
        x.into(2, 2);
        x.into(3, 7);
        x.into(4, 7);
        x.tie(0, 0, 6);
        x.bath(2);
        x.law(1, 1, 1);
        int[] due = {5, 7, 1, 1, 100, 101, 102 - 28, 103, 1, 1, 1, 0, 0, 0, 0, 2};
        for (int what = 0; what < due.length; what++) {
            int asked = what;
            Check.due("23 count " + what, due[what], () -> x.count(asked));
        }
        x.plan(4 + 4 * 8);
        x.dye();
        Check.due("23 baths of what was carried out", 3, () -> x.count(2));
    }
}
