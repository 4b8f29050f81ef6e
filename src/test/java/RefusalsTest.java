/**
 * Each refused call: which exception it throws, which one if several apply (the one that its throws
 * clause names first), and that it changes nothing; on a union in which each sort of thing stands, and on
 * the full one. And that what is asked changes nothing.
 */
public final class RefusalsTest {
    private interface Deed {
        void on(Trial x);
    }

    private static final int LETTER = Postunion.LETTER, CARD = Postunion.CARD, PRINT = Postunion.PRINT;
    private static final Class<? extends RuntimeException> INDEX = IndexOutOfBoundsException.class;
    private static final Class<? extends RuntimeException> ARGUMENT = IllegalArgumentException.class;
    private static final Class<? extends RuntimeException> STATE = IllegalStateException.class;
    private static final Checks checks = new Checks("RefusalsTest");

    public static void main(String[] args) {
        worldsAreAsTold(Worlds.busy());
        worldsAreAsTold(Worlds.full());
        for (Worlds.World world : new Worlds.World[] {Worlds.BUSY, Worlds.FULL}) {
            tellingOfNoPost(world);
            tellingWrong(world);
            legs(world);
            close(world);
            routes(world);
            mail(world);
            redirect(world);
            redirectOfNoThing(world);
            refuse(world);
            lose(world);
            claim(world);
            daysSettleGain(world);
            askingPosts(world);
            askingThings(world);
            askedChangesNothing(world);
        }
        noRoomForAPost();
        checks.end();
    }

    private static void refused(String what, Class<? extends RuntimeException> want, Worlds.World world, Deed deed) {
        Trial x = world.make();
        checks.isRefused(what + " (" + world.name() + ")", want, x, () -> deed.on(x));
    }

    private static void asked(String what, Worlds.World world, Deed deed) {
        Trial x = world.make();
        checks.isAsked(what + " (" + world.name() + ")", x, () -> deed.on(x));
    }

    /** Numbers that none of so many has. */
    private static int[] none(int count) {
        return new int[] {-1, count, Integer.MIN_VALUE, Integer.MAX_VALUE};
    }

    // ---- the unions to test on

    /** The other tests here would show little, if a thing did not do what its name tells. */
    private static void worldsAreAsTold(Trial x) {
        checkThing(x, Worlds.DELIVERED_ONE, Worlds.DELIVERED, 1, 0, 2);
        checkThing(x, Worlds.DELIVERED_PLAIN, Worlds.DELIVERED, 1, 0, 0);
        checkThing(x, Worlds.WENT_BACK_ONE, Worlds.DELIVERED, 0, 1, 3);
        checkThing(x, Worlds.LOST_CLAIMED_ONE, Worlds.LOST, 1, 0, 1);
        checkThing(x, Worlds.LOST_ONE, Worlds.LOST, 2, 0, 2);
        checkThing(x, Worlds.LOST_PLAIN, Worlds.LOST, 2, 0, 0);
        checkThing(x, Worlds.BACK_WAITS_ONE, Worlds.WAITS, 2, 1, 2);
        checkThing(x, Worlds.BACK_TRAVELS_ONE, Worlds.TRAVELS, 0, 1, 2);
        checkThing(x, Worlds.TRAVELS_ONE, Worlds.TRAVELS, 2, 0, 2);
        checkThing(x, Worlds.TRAVELS_REFUSED, Worlds.TRAVELS, 2, 0, 0);
        checkThing(x, Worlds.WAITS_AWAY_ONE, Worlds.WAITS, 2, 0, 2);
        checkThing(x, Worlds.WAITS_HOME_ONE, Worlds.WAITS, 3, 0, 1);
        checks.is("what is counted", x.counted(0, 1), 5);
    }

    private static void checkThing(Trial x, int thing, int does, int place, int back, int hands) {
        checks.is("what thing " + thing + " does", x.ofThing(thing, 0), does);
        checks.is("where thing " + thing + " is", x.ofThing(thing, 1), place);
        checks.is("whether thing " + thing + " goes back", x.ofThing(thing, 5), back);
        checks.is("hands of thing " + thing, x.ofThing(thing, 6), hands);
    }

    // ---- promises 2 to 7: posts, rates

    private static void noRoomForAPost() {
        refused("a post of the full union", STATE, Worlds.FULL, x -> x.post());
    }

    private static void tellingOfNoPost(Worlds.World world) {
        for (int post : none(world.posts())) {
            refused("rates of post " + post, INDEX, world, x -> x.rates(post, LETTER, 1, 1));
            refused("rates of post " + post + ", kind too", INDEX, world, x -> x.rates(post, 3, 1, 1));
            refused("rates of post " + post + ", first too", INDEX, world, x -> x.rates(post, LETTER, 10001, 1));
            refused("rates of post " + post + ", further too", INDEX, world, x -> x.rates(post, LETTER, 1, -1));
            refused("due of post " + post, INDEX, world, x -> x.due(post, LETTER, 1));
            refused("due of post " + post + ", kind too", INDEX, world, x -> x.due(post, -1, 1));
            refused("due of post " + post + ", cents too", INDEX, world, x -> x.due(post, LETTER, 10001));
            refused("charge of post " + post, INDEX, world, x -> x.charge(post, 1));
            refused("charge of post " + post + ", cents too", INDEX, world, x -> x.charge(post, 1001));
            refused("coupon of post " + post, INDEX, world, x -> x.coupon(post, 1));
            refused("coupon of post " + post + ", cents too", INDEX, world, x -> x.coupon(post, -1));
            refused("strike of post " + post, INDEX, world, x -> x.strike(post, true));
            refused("no strike of post " + post, INDEX, world, x -> x.strike(post, false));
        }
    }

    private static void tellingWrong(Worlds.World world) {
        int last = world.posts() - 1;
        for (int kind : none(3)) {
            refused("rates of kind " + kind, ARGUMENT, world, x -> x.rates(last, kind, 1, 1));
            refused("rates of kind " + kind + ", all too", ARGUMENT, world, x -> x.rates(last, kind, -1, 10001));
            refused("due of kind " + kind, ARGUMENT, world, x -> x.due(last, kind, 1));
            refused("due of kind " + kind + ", cents too", ARGUMENT, world, x -> x.due(last, kind, -1));
        }
        for (int cents : none(10001)) {
            refused("first of " + cents, ARGUMENT, world, x -> x.rates(last, LETTER, cents, 1));
            refused("further of " + cents, ARGUMENT, world, x -> x.rates(last, LETTER, 1, cents));
            refused("both of " + cents, ARGUMENT, world, x -> x.rates(last, LETTER, cents, cents));
            refused("due of " + cents, ARGUMENT, world, x -> x.due(last, LETTER, cents));
            refused("coupon of " + cents, ARGUMENT, world, x -> x.coupon(last, cents));
        }
        for (int cents : none(1001)) {
            refused("charge of " + cents, ARGUMENT, world, x -> x.charge(last, cents));
        }
    }

    // ---- promises 8 to 12: legs, routes

    private static void legs(Worlds.World world) {
        for (int one : new int[] {0, -1, world.posts()}) {
            for (int other : new int[] {1, 0, -1, world.posts()}) {
                for (int days : new int[] {1, 0, 101, Integer.MIN_VALUE, Integer.MAX_VALUE}) {
                    leg(world, one, other, days);
                }
            }
        }
    }

    private static void leg(Worlds.World world, int one, int other, int days) {
        boolean isNoPost = one != 0 || other != 0 && other != 1;
        boolean isWrong = one == other || days != 1;
        boolean isFull = world == Worlds.FULL;
        if (isNoPost || isWrong || isFull) {
            String what = "leg(" + one + ", " + other + ", " + days + ")";
            refused(what, isNoPost ? INDEX : isWrong ? ARGUMENT : STATE, world, x -> x.leg(one, other, days));
        }
    }

    private static void close(Worlds.World world) {
        for (int leg : none(world.legs())) {
            refused("close(" + leg + ", true)", INDEX, world, x -> x.close(leg, true));
            refused("close(" + leg + ", false)", INDEX, world, x -> x.close(leg, false));
        }
    }

    private static void routes(Worlds.World world) {
        for (int wrong : none(world.posts())) {
            for (int other : new int[] {0, world.posts() - 1, wrong}) {
                refused("days(" + wrong + ", " + other + ")", INDEX, world, x -> x.days(wrong, other));
                refused("days(" + other + ", " + wrong + ")", INDEX, world, x -> x.days(other, wrong));
                refused("daysAnew(" + wrong + ", " + other + ")", INDEX, world, x -> x.daysAnew(wrong, other));
                refused("daysAnew(" + other + ", " + wrong + ")", INDEX, world, x -> x.daysAnew(other, wrong));
                refused("next(" + wrong + ", " + other + ")", INDEX, world, x -> x.next(wrong, other));
                refused("next(" + other + ", " + wrong + ")", INDEX, world, x -> x.next(other, wrong));
            }
        }
    }

    // ---- promises 13 to 18: things, days

    /** Each choice of fine and wrong arguments, so that each of the exceptions meets each other one. */
    private static void mail(Worlds.World world) {
        for (int from : new int[] {1, world.posts(), -1}) {
            for (int to : new int[] {2, 1, world.posts(), -1}) {
                for (int kind : new int[] {LETTER, CARD, PRINT, -1, 3}) {
                    for (int grams : new int[] {20, 21, 0, 2001}) {
                        for (int paid : new int[] {0, -1, 100001}) {
                            mail(world, kind, from, to, grams, paid);
                        }
                    }
                }
            }
        }
        for (int odd : new int[] {Integer.MIN_VALUE, Integer.MAX_VALUE}) {
            mail(world, odd, 1, 2, 20, 0);
            mail(world, LETTER, odd, 2, 20, 0);
            mail(world, LETTER, 1, odd, 20, 0);
            mail(world, LETTER, odd, odd, 20, 0);
            mail(world, LETTER, 1, 2, odd, 0);
            mail(world, CARD, 1, 2, odd, 0);
            mail(world, LETTER, 1, 2, 20, odd);
        }
    }

    private static void mail(Worlds.World world, int kind, int from, int to, int grams, int paid) {
        boolean isNoPost = from != 1 || to != 1 && to != 2;
        boolean isKind = kind == LETTER || kind == CARD || kind == PRINT;
        boolean isGrams = grams == 20 || grams == 21 && kind != CARD;
        boolean isWrong = !isKind || !isGrams || paid != 0 || from == to;
        if (isNoPost || isWrong || world == Worlds.FULL) {
            String what = "mail(" + kind + ", " + from + ", " + to + ", " + grams + ", " + paid + ")";
            Class<? extends RuntimeException> want = isNoPost ? INDEX : isWrong ? ARGUMENT : STATE;
            refused(what, want, world, x -> x.mail(kind, from, to, grams, paid, true));
        }
    }

    private static void redirect(Worlds.World world) {
        redirects("where it waits at its origin", ARGUMENT, world, Worlds.WAITS_HOME_ONE, 3);
        redirects("where it waits on the way", ARGUMENT, world, Worlds.WAITS_AWAY_ONE, 2);
        redirects("where it waits to go back", ARGUMENT, world, Worlds.BACK_WAITS_ONE, 2);
        redirects("elsewhere, as it waits to go back", STATE, world, Worlds.BACK_WAITS_ONE, 3);
        redirects("to its origin, as it waits to go back", STATE, world, Worlds.BACK_WAITS_ONE, 1);
        redirects("elsewhere, as it travels back", STATE, world, Worlds.BACK_TRAVELS_ONE, 2);
        redirects("to its origin, as it travels back", STATE, world, Worlds.BACK_TRAVELS_ONE, 0);
        redirects("where it turned back", STATE, world, Worlds.BACK_TRAVELS_ONE, 1);
        redirects("elsewhere, as it is delivered", STATE, world, Worlds.DELIVERED_ONE, 2);
        redirects("where it is delivered", STATE, world, Worlds.DELIVERED_ONE, 1);
        redirects("where it is delivered, plain", STATE, world, Worlds.DELIVERED_PLAIN, 1);
        redirects("elsewhere, as it went back", STATE, world, Worlds.WENT_BACK_ONE, 2);
        redirects("where it went back to", STATE, world, Worlds.WENT_BACK_ONE, 0);
        redirects("elsewhere, as it is lost and claimed for", STATE, world, Worlds.LOST_CLAIMED_ONE, 2);
        redirects("where it was lost, claimed for", STATE, world, Worlds.LOST_CLAIMED_ONE, 1);
        redirects("elsewhere, as it is lost", STATE, world, Worlds.LOST_ONE, 0);
        redirects("where it waited as it was lost", STATE, world, Worlds.LOST_ONE, 2);
        redirects("where it went as it was lost", STATE, world, Worlds.LOST_PLAIN, 2);
    }

    private static void redirects(String what, Class<? extends RuntimeException> want, Worlds.World world, int thing, int to) {
        refused("redirect " + thing + " " + what, want, world, x -> x.redirect(thing, to));
    }

    private static void redirectOfNoThing(Worlds.World world) {
        for (int thing : none(world.things())) {
            refused("redirect thing " + thing, INDEX, world, x -> x.redirect(thing, 0));
            for (int post : none(world.posts())) {
                refused("redirect thing " + thing + " to post " + post, INDEX, world, x -> x.redirect(thing, post));
            }
        }
        for (int post : none(world.posts())) {
            for (int thing = 0; thing < Worlds.BUSY_THINGS; thing++) {
                int one = thing;
                refused("redirect " + one + ", whatever it does, to post " + post, INDEX, world, x -> x.redirect(one, post));
            }
        }
    }

    private static void refuse(Worlds.World world) {
        for (boolean isSo : new boolean[] {true, false}) {
            for (int thing : none(world.things())) {
                refused("refuse(" + thing + ", " + isSo + ")", INDEX, world, x -> x.refuse(thing, isSo));
            }
            for (int thing : new int[] {Worlds.DELIVERED_ONE, Worlds.DELIVERED_PLAIN, Worlds.WENT_BACK_ONE,
                    Worlds.LOST_CLAIMED_ONE, Worlds.LOST_ONE, Worlds.LOST_PLAIN, Worlds.BACK_WAITS_ONE, Worlds.BACK_TRAVELS_ONE}) {
                refused("refuse(" + thing + ", " + isSo + ")", STATE, world, x -> x.refuse(thing, isSo));
            }
        }
    }

    private static void lose(Worlds.World world) {
        for (int thing : none(world.things())) {
            refused("lose(" + thing + ")", INDEX, world, x -> x.lose(thing));
        }
        for (int thing : new int[] {Worlds.DELIVERED_ONE, Worlds.DELIVERED_PLAIN, Worlds.WENT_BACK_ONE,
                Worlds.LOST_CLAIMED_ONE, Worlds.LOST_ONE, Worlds.LOST_PLAIN}) {
            refused("lose(" + thing + ")", STATE, world, x -> x.lose(thing));
        }
    }

    /** All but the one that is lost, registered, and not yet claimed for. */
    private static void claim(Worlds.World world) {
        for (int thing : none(world.things())) {
            refused("claim(" + thing + ")", INDEX, world, x -> x.claim(thing));
        }
        for (int thing = 0; thing < world.things(); thing++) {
            int one = thing;
            if (one != Worlds.LOST_ONE) {
                refused("claim(" + one + ")", STATE, world, x -> x.claim(one));
            }
        }
    }

    private static void daysSettleGain(Worlds.World world) {
        for (int days : new int[] {0, -1, 201, Integer.MIN_VALUE, Integer.MAX_VALUE}) {
            refused("go(" + days + ")", ARGUMENT, world, x -> x.go(days));
        }
        for (int factor : new int[] {0, -1, 1001, Integer.MIN_VALUE, Integer.MAX_VALUE}) {
            refused("settle(" + factor + ")", ARGUMENT, world, x -> x.settle(factor));
        }
        for (int what : none(3)) {
            refused("gain(" + what + ")", ARGUMENT, world, x -> x.gain(what));
        }
    }

    // ---- promises 21 to 26: what is asked

    private static void askingPosts(Worlds.World world) {
        for (int post : none(world.posts())) {
            refused("account(" + post + ")", INDEX, world, x -> x.account(post));
            refused("till(" + post + ")", INDEX, world, x -> x.till(post));
            refused("counted(" + post + ", 0)", INDEX, world, x -> x.counted(post, 0));
            refused("counted(0, " + post + ")", INDEX, world, x -> x.counted(0, post));
            refused("counted(" + post + ", " + post + ")", INDEX, world, x -> x.counted(post, post));
            refused("rate of post " + post, INDEX, world, x -> x.rate(LETTER, post, 1, true));
            refused("rate of post " + post + ", kind too", INDEX, world, x -> x.rate(3, post, 1, true));
            refused("rate of post " + post + ", grams too", INDEX, world, x -> x.rate(CARD, post, 21, true));
            refused("rate of post " + post + ", all too", INDEX, world, x -> x.rate(-1, post, 0, true));
        }
        for (int kind : none(3)) {
            refused("rate of kind " + kind, ARGUMENT, world, x -> x.rate(kind, 0, 1, false));
            refused("rate of kind " + kind + ", grams too", ARGUMENT, world, x -> x.rate(kind, 0, 0, false));
        }
        for (int grams : new int[] {0, -1, 2001, Integer.MIN_VALUE, Integer.MAX_VALUE}) {
            refused("rate of a letter of " + grams, ARGUMENT, world, x -> x.rate(LETTER, 0, grams, false));
            refused("rate of a print of " + grams, ARGUMENT, world, x -> x.rate(PRINT, 0, grams, true));
        }
        for (int grams : new int[] {0, -1, 21, 2000, Integer.MIN_VALUE, Integer.MAX_VALUE}) {
            refused("rate of a card of " + grams, ARGUMENT, world, x -> x.rate(CARD, 0, grams, false));
        }
    }

    private static void askingThings(Worlds.World world) {
        for (int thing : none(world.things())) {
            refused("ofThing(" + thing + ", 0)", INDEX, world, x -> x.ofThing(thing, 0));
            refused("ofThing(" + thing + ", 7)", INDEX, world, x -> x.ofThing(thing, 7));
            refused("ofThing(" + thing + ", -1)", INDEX, world, x -> x.ofThing(thing, -1));
            refused("hand(" + thing + ", 0)", INDEX, world, x -> x.hand(thing, 0));
            refused("hand(" + thing + ", -1)", INDEX, world, x -> x.hand(thing, -1));
        }
        for (int thing = 0; thing < Worlds.BUSY_THINGS; thing++) {
            int one = thing;
            for (int what : none(7)) {
                refused("ofThing(" + one + ", " + what + ")", ARGUMENT, world, x -> x.ofThing(one, what));
            }
            int hands = (int) world.make().ofThing(one, 6);
            for (int place : none(hands)) {
                refused("hand(" + one + ", " + place + ")", INDEX, world, x -> x.hand(one, place));
            }
        }
    }

    // ---- "are asked, which changes nothing"

    private static void askedChangesNothing(Worlds.World world) {
        for (int one = 0; one < world.posts(); one++) {
            int from = one;
            int to = world.posts() - 1 - one;
            asked("account(" + from + ")", world, x -> x.account(from));
            asked("till(" + from + ")", world, x -> x.till(from));
            asked("counted(" + from + ", " + to + ")", world, x -> x.counted(from, to));
            asked("days(" + from + ", " + to + ")", world, x -> x.days(from, to));
            asked("daysAnew(" + from + ", " + to + ")", world, x -> x.daysAnew(from, to));
            asked("next(" + from + ", " + to + ")", world, x -> x.next(from, to));
            asked("rate of " + from, world, x -> x.rate(PRINT, from, 2000, true));
        }
        for (int what = 0; what < 7; what++) {
            int of = what;
            for (int thing = 0; thing < Worlds.BUSY_THINGS; thing++) {
                int one = thing;
                asked("ofThing(" + one + ", " + of + ")", world, x -> x.ofThing(one, of));
            }
        }
        for (int what = 0; what < 3; what++) {
            int of = what;
            asked("gain(" + of + ")", world, x -> x.gain(of));
        }
        asked("hand(" + Worlds.WAITS_AWAY_ONE + ", 1)", world, x -> x.hand(Worlds.WAITS_AWAY_ONE, 1));
    }
}
