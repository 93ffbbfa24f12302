/** What an object holds, read through its calls: two objects that answer alike here hold the same. */
final class Probe {
    private Probe() {
    }

    /** By calls that change nothing. */
    static String visible(TiedFrame x) {
        StringBuilder text = new StringBuilder();
        for (int what = 0; what < 16; what++) {
            text.append(what == 0 ? "count " : " ").append(x.count(what));
        }
        text.append("; kept ").append(x.kept(0)).append(' ').append(x.kept(1)).append(' ').append(x.kept(2));
        text.append("; blurred ").append(x.blurred());
        text.append("; rank ").append(x.rank(0)).append(' ').append(x.rank(5)).append(' ').append(x.rank(9999));
        for (int bundle = 0; bundle < 8; bundle++) {
            text.append("; bundle ").append(bundle).append(' ').append(knots(x, bundle)).append(' ').append(bits(x, bundle));
        }
        for (int thread = 0; thread < x.count(0); thread++) {
            text.append("; thread ").append(thread).append(' ').append(colours(x, thread)).append(" seen");
            for (int place = 0; place < x.count(1); place++) {
                text.append(' ').append(x.seen(thread, place));
            }
        }
        return text.toString();
    }

    /** All of it, by calls that change what they tell, too; some 300 calls for a frame of 3 threads of 5 places. */
    static String whole(TiedFrame x) {
        StringBuilder text = new StringBuilder(visible(x));
        text.append("; dye ").append(x.dye());
        for (int thread = 0; thread < x.count(0); thread++) {
            text.append("; wanted");
            for (int place = 0; place < x.count(1); place++) {
                text.append(' ').append(x.want(thread, place, 0));
            }
            text.append(", in ").append(x.into(thread, 0));
        }
        for (int bundle = 0; bundle < 8; bundle++) {
            text.append(bundle == 0 ? "; folded " : " ").append(x.fold(bundle, false));
        }
        for (int k = 0; k < 64; k++) {
            text.append(k == 0 ? "; table " : " ").append(x.table(k / 4, k % 4, 0));
        }
        return text.toString();
    }

    /** The rank of each colour alone on some days. */
    static String laws(TiedFrame x, int... days) {
        StringBuilder text = new StringBuilder("laws ").append(x.count(3));
        x.frame(1, 1);
        x.vat(0, 16);
        for (int colour = 0; colour < 16; colour++) {
            x.fold(0, false);
            x.table(0, 0, colour);
            x.bath(0);
            text.append("; ").append(x.colour(0, 0)).append(':');
            for (int day : days) {
                text.append(' ').append(x.rank(day));
            }
        }
        return text.toString();
    }

    static String bits(TiedFrame x, int bundle) {
        StringBuilder text = new StringBuilder();
        for (int place = 0; place < x.count(1); place++) {
            text.append(place == 0 ? "" : " ").append(x.bits(bundle, place));
        }
        return text.toString();
    }

    static String colours(TiedFrame x, int thread) {
        StringBuilder text = new StringBuilder();
        for (int place = 0; place < x.count(1); place++) {
            text.append(place == 0 ? "" : " ").append(x.colour(thread, place));
        }
        return text.toString();
    }

    static String knots(TiedFrame x, int bundle) {
        StringBuilder text = new StringBuilder();
        for (int place = 0; place < x.count(1); place++) {
            text.append(x.bound(bundle, place) ? 'x' : '.');
        }
        return text.toString();
    }

    static void wantAll(TiedFrame x, int thread, int... colours) {
        for (int place = 0; place < colours.length; place++) {
            x.want(thread, place, colours[place]);
        }
    }

    static void fillVats(TiedFrame x, int strength) {
        for (int dye = 0; dye < 4; dye++) {
            x.vat(dye, strength);
        }
    }

    static TiedFrame framed(int threads, int places) {
        TiedFrame x = new TiedFrame();
        x.frame(threads, places);
        return x;
    }
}
