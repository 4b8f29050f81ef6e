/** All that can be asked of an object, as a text. */
final class Snapshot {
    private static final int MOST_POSTS = 8;
    private static final int MOST_THINGS = 40;

    private Snapshot() {
    }

    static String of(Postunion x) {
        StringBuilder told = new StringBuilder();
        for (int what = 0; what < 3; what++) {
            told.append(x.gain(what)).append(' ');
        }
        int posts = 0;
        while (posts <= MOST_POSTS && hasPost(x, posts)) {
            posts++;
        }
        for (int post = 0; post < posts; post++) {
            tellPost(x, post, posts, told);
        }
        for (int thing = 0; thing <= MOST_THINGS && hasThing(x, thing); thing++) {
            tellThing(x, thing, told);
        }
        return told.toString();
    }

    private static void tellPost(Postunion x, int post, int posts, StringBuilder told) {
        told.append("\npost ").append(post).append(": ").append(x.account(post)).append(' ').append(x.till(post));
        for (int kind = 0; kind < 3; kind++) {
            told.append(' ').append(x.rate(kind, post, 1, false));
            told.append(' ').append(kind == Postunion.CARD ? 0 : x.rate(kind, post, 40, true));
        }
        for (int other = 0; other < posts; other++) {
            told.append(" (").append(x.days(post, other)).append(' ').append(x.daysAnew(post, other));
            told.append(' ').append(x.next(post, other)).append(' ').append(x.counted(post, other)).append(')');
        }
    }

    private static void tellThing(Postunion x, int thing, StringBuilder told) {
        told.append("\nthing ").append(thing).append(':');
        for (int what = 0; what < 7; what++) {
            told.append(' ').append(x.ofThing(thing, what));
        }
        long hands = x.ofThing(thing, 6);
        for (int place = 0; place < hands; place++) {
            told.append(" h").append(x.hand(thing, place));
        }
    }

    private static boolean hasPost(Postunion x, int post) {
        try {
            x.account(post);
            return true;
        } catch (IndexOutOfBoundsException none) {
            return false;
        }
    }

    private static boolean hasThing(Postunion x, int thing) {
        try {
            x.ofThing(thing, 0);
            return true;
        } catch (IndexOutOfBoundsException none) {
            return false;
        }
    }
}
