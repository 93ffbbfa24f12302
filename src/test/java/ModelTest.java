import java.util.Arrays;
import java.util.Random;
import java.util.concurrent.Callable;

/** Runs of calls by fixed seeds, each answer compared with the plain model's. */
public final class ModelTest {
    private static final int MOST_CALLS = 512;

    private final Random random;
    private final TiedFrame frame = new TiedFrame();
    private final Model model = new Model();
    private final StringBuilder story = new StringBuilder();
    private int calls = 0;
    private boolean right = true;
    private int threads = 1;
    private int places = 1;

    private ModelTest(long seed) {
        random = new Random(seed);
        story.append("seed ").append(seed).append(':');
    }

    public static void main(String[] args) {
        for (long seed = 0; seed < 400; seed++) {
            new ModelTest(seed).anyCalls(false);
        }
        for (long seed = 1000; seed < 1150; seed++) {
            new ModelTest(seed).anyCalls(true);
        }
        for (long seed = 2000; seed < 2150; seed++) {
            new ModelTest(seed).pictures(16, 24, seed % 3 == 0);
        }
        for (long seed = 3000; seed < 3400; seed++) {
            new ModelTest(seed).pictures(5, 6, seed % 2 == 0);
        }
        for (long seed = 4000; seed < 4600; seed++) {
            new ModelTest(seed).everyPlan();
        }
        Check.end("ModelTest");
    }

    private int upTo(int most) {
        return random.nextInt(most + 1);
    }

    /** Mostly from 0 below the limit; now and then just beyond it, or far. */
    private int about(int limit) {
        switch (random.nextInt(60)) {
            case 0:
                return -1;
            case 1:
                return limit;
            case 2:
                return random.nextInt();
            case 3:
                return random.nextBoolean() ? Integer.MIN_VALUE : Integer.MAX_VALUE;
            default:
                return random.nextInt(limit);
        }
    }

    private String ask(String call, Callable<?> real, Callable<?> due) {
        if (!right || calls >= MOST_CALLS) {
            return "";
        }
        calls++;
        String answer = Check.answer(real);
        story.append(' ').append(call).append("->").append(answer);
        right = Check.same(call, Check.answer(due), answer);
        if (!right) {
            System.out.println(story);
        }
        return answer;
    }

    private static String text(String name, int... args) {
        return name + Arrays.toString(args);
    }

    private void setFrame(int t, int p) {
        if (ask(text("frame", t, p), Check.run(() -> frame.frame(t, p)), Check.run(() -> model.frame(t, p))).equals("nothing")) {
            threads = t;
            places = p;
        }
    }

    private void ask2(String name, int a, int b) {
        switch (name) {
            case "into":
                ask(text(name, a, b), () -> frame.into(a, b), () -> model.into(a, b));
                break;
            case "fold":
                ask(text(name, a, b), () -> frame.fold(a, b > 0), () -> model.fold(a, b > 0));
                break;
            case "vat":
                ask(text(name, a, b), () -> frame.vat(a, b), () -> model.vat(a, b));
                break;
            case "colour":
                ask(text(name, a, b), () -> frame.colour(a, b), () -> model.colour(a, b));
                break;
            case "bound":
                ask(text(name, a, b), () -> frame.bound(a, b), () -> model.bound(a, b));
                break;
            case "bits":
                ask(text(name, a, b), () -> frame.bits(a, b), () -> model.bits(a, b));
                break;
            default:
                ask(text(name, a, b), () -> frame.seen(a, b), () -> model.seen(a, b));
                break;
        }
    }

    private void ask3(String name, int a, int b, int c) {
        switch (name) {
            case "table":
                ask(text(name, a, b, c), () -> frame.table(a, b, c), () -> model.table(a, b, c));
                break;
            case "tie":
                ask(text(name, a, b, c), () -> frame.tie(a, b, c), () -> model.tie(a, b, c));
                break;
            case "untie":
                ask(text(name, a, b, c), () -> frame.untie(a, b, c), () -> model.untie(a, b, c));
                break;
            case "want":
                ask(text(name, a, b, c), () -> frame.want(a, b, c), () -> model.want(a, b, c));
                break;
            case "law":
                ask(text(name, a, b, c), () -> frame.law(a, b, c), () -> model.law(a, b, c));
                break;
            default:
                ask(text(name, a, b, c), Check.run(() -> frame.slip(a, b, c)), Check.run(() -> model.slip(a, b, c)));
                break;
        }
    }

    private String ask1(String name, int a) {
        switch (name) {
            case "bath":
                return ask(text(name, a), () -> frame.bath(a), () -> model.bath(a));
            case "plan":
                return ask(text(name, a), () -> frame.plan(a), () -> model.plan(a));
            case "best":
                return ask(text(name, a), () -> frame.best(a), () -> model.best(a));
            case "kept":
                return ask(text(name, a), () -> frame.kept(a), () -> model.kept(a));
            case "rank":
                return ask(text(name, a), () -> frame.rank(a), () -> model.rank(a));
            default:
                return ask(text(name, a), () -> frame.count(a), () -> model.count(a));
        }
    }

    private int someRow() {
        if (random.nextInt(12) == 0) {
            return about(4096);
        }
        int row = 0;
        int baths = upTo(4);
        for (int i = 0; i < baths; i++) {
            row |= (1 + random.nextInt(4)) << (3 * i);
        }
        return row;
    }

    private void anyCalls(boolean wide) {
        setFrame(wide ? 16 : 1 + upTo(3), wide ? 24 : 1 + upTo(4));
        while (right && calls < MOST_CALLS) {
            anyCall(random.nextInt(42));
        }
    }

    private void anyCall(int kind) {
        if (kind == 0) {
            if (random.nextInt(6) == 0) {
                setFrame(about(random.nextBoolean() ? 17 : 4), about(random.nextBoolean() ? 25 : 5));
            }
        } else if (kind == 1 || kind == 2) {
            if (random.nextInt(3) == 0) {
                ask2("into", about(threads), about(random.nextBoolean() ? 8 : 2));
            }
        } else if (kind == 3) {
            if (random.nextInt(3) == 0) {
                ask2("fold", about(random.nextBoolean() ? 8 : 2), upTo(1));
            }
        } else if (kind == 4) {
            ask3("table", about(16), about(4), about(16));
        } else if (kind < 8) {
            ask2("vat", about(4), random.nextInt(20) == 0 ? about(1000001) : about(400));
        } else if (kind < 12) {
            int from = about(places);
            ask3(kind < 10 ? "tie" : "untie", about(random.nextBoolean() ? 8 : 2), from, random.nextInt(8) == 0 ? about(places) : Math.min(places - 1, from + upTo(3)));
        } else if (kind < 15) {
            ask1("bath", about(4));
        } else if (kind < 20) {
            ask3("want", about(threads), about(places), random.nextInt(3) == 0 ? about(16) : 1 << upTo(1));
        } else if (kind < 22) {
            ask1("plan", someRow());
        } else if (kind == 22) {
            if (random.nextInt(4) == 0) {
                ask1("best", about(places > 6 ? 3 : 5));
            }
        } else {
            anyQuestion(kind);
        }
    }

    private void anyQuestion(int kind) {
        switch (kind) {
            case 23:
            case 24:
                ask("dye", frame::dye, model::dye);
                break;
            case 25:
            case 26:
                int low = upTo(7) - 4;
                ask3("slip", about(threads), low, low + upTo(8) - 1);
                break;
            case 27:
            case 28:
                ask("blurred", frame::blurred, model::blurred);
                break;
            case 29:
                ask3("law", random.nextBoolean() ? about(10000) : about(20), random.nextBoolean() ? about(16) : about(3), about(10));
                break;
            case 30:
            case 31:
                ask1("rank", random.nextBoolean() ? about(10000) : about(20));
                break;
            case 32:
            case 33:
                ask1("count", about(16));
                break;
            case 34:
                ask1("kept", about(3));
                break;
            case 35:
            case 36:
                ask2("bits", about(8), about(places));
                break;
            case 37:
                ask2("bound", about(8), about(places));
                break;
            case 38:
            case 39:
                ask2("seen", about(threads), about(places));
                break;
            default:
                ask2("colour", about(threads), about(places));
                break;
        }
    }

    /** A picture that some plan for some row makes, most of its places like their neighbours. */
    private void pictures(int mostThreads, int mostPlaces, boolean ownTable) {
        int wide = 1 + upTo(mostThreads - 1);
        setFrame(wide, Math.min(1 + upTo(mostPlaces - 1), 400 / wide));
        int[] home = spread();
        int[][] table = tables(ownTable);
        for (int dye = 0; dye < 4; dye++) {
            ask2("vat", dye, 1 + upTo(600));
        }
        int baths = upTo(4);
        int[] dyes = new int[baths];
        for (int i = 0; i < baths; i++) {
            dyes[i] = random.nextInt(4);
        }
        int[][] colours = new int[8][places];
        for (int b = 0; b < 8; b++) {
            int bits = 0;
            for (int p = 0; p < places; p++) {
                bits = random.nextInt(3) == 0 ? random.nextInt(1 << baths) : bits;
                int c = 0;
                for (int i = 0; i < baths; i++) {
                    c = (bits >> i & 1) != 0 ? c : table[c][dyes[i]];
                }
                colours[b][p] = c;
            }
        }
        for (int t = 0; t < threads; t++) {
            for (int p = 0; p < places; p++) {
                int q = isFolded(home[t]) ? Math.min(p, places - 1 - p) : p;
                if (colours[home[t]][q] != 0) {
                    ask3("want", t, p, colours[home[t]][q]);
                }
            }
        }
        askPlan(ask1("plan", Model.rowOf(dyes)));
        askPlan(ask1("best", baths));
        askPlan(ask1("best", random.nextInt(10) == 0 ? 4 : Math.min(3, baths + 1)));
        ask3("slip", upTo(threads - 1), -1, 1);
        ask("blurred", frame::blurred, model::blurred);
    }

    private boolean[] foldedNow = new boolean[8];

    private boolean isFolded(int bundle) {
        return foldedNow[bundle];
    }

    private int[] spread() {
        int[] home = new int[threads];
        foldedNow = new boolean[8];
        int most = random.nextInt(8);
        for (int t = 0; t < threads; t++) {
            home[t] = upTo(most);
            ask2("into", t, home[t]);
        }
        for (int b = 0; b < 8; b++) {
            if (random.nextInt(3) == 0) {
                foldedNow[b] = true;
                ask2("fold", b, 1);
            }
        }
        return home;
    }

    private int[][] tables(boolean own) {
        int[][] table = new int[16][4];
        int most = 1 + upTo(4);
        for (int c = 0; c < 16; c++) {
            for (int d = 0; d < 4; d++) {
                table[c][d] = c | 1 << d;
                if (own && c <= most) {
                    table[c][d] = upTo(most);
                    ask3("table", c, d, table[c][d]);
                }
            }
        }
        return table;
    }

    private void askPlan(String ties) {
        for (int what = 0; what < 3; what++) {
            ask1("kept", what);
        }
        int step = calls < 200 ? 1 : 5;
        for (int k = 0; k < 8 * places; k += step) {
            ask2("bits", k / places, k % places);
        }
        if (!ties.equals("-1")) {
            ask("dye", frame::dye, model::dye);
            ask2("colour", upTo(threads - 1), upTo(places - 1));
            ask2("bound", upTo(7), upTo(places - 1));
        }
    }

    /** Small frames, for which the model tries each plan there is, word by word. */
    private void everyPlan() {
        setFrame(1 + upTo(2), 1 + upTo(3));
        int[] home = spread();
        tables(random.nextInt(4) > 0);
        int most = 1 + upTo(2);
        int[][] colours = new int[8][places];
        for (int[] colour : colours) {
            for (int p = 0; p < places; p++) {
                colour[p] = upTo(most);
            }
        }
        for (int t = 0; t < threads; t++) {
            for (int p = 0; p < places; p++) {
                int q = isFolded(home[t]) ? Math.min(p, places - 1 - p) : p;
                ask3("want", t, p, colours[home[t]][q]);
            }
        }
        for (int k = 0; k < 6; k++) {
            int row = someRow();
            int[] dyes = Model.dyes(row);
            if (dyes != null && dyes.length * places <= 12) {
                Model.Plan due = model.exhaustive(dyes);
                String answer = ask1("plan", row);
                if (right && calls < MOST_CALLS) {
                    right = Check.same(story + " by every plan", due == null ? "-1" : String.valueOf(due.ties), answer);
                }
                for (int j = 0; due != null && j < 8 * places; j++) {
                    int b = j / places;
                    int p = j % places;
                    ask(text("bits by every plan", b, p), () -> frame.bits(b, p), () -> due.bits[b][p]);
                }
            }
        }
    }
}
