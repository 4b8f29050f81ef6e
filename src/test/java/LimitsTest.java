import java.util.function.Supplier;

/**
 * Each range that the document tells: its first and its last value are taken, and the ones beyond are
 * refused, and change nothing. What the values that are taken bring about is seen in other tests.
 */
public final class LimitsTest {
    private interface Deed {
        void with(Trial x, int number);
    }

    private static final int LETTER = Postunion.LETTER, CARD = Postunion.CARD, PRINT = Postunion.PRINT;
    private static final Class<? extends RuntimeException> INDEX = IndexOutOfBoundsException.class;
    private static final Class<? extends RuntimeException> ARGUMENT = IllegalArgumentException.class;
    private static final Checks checks = new Checks("LimitsTest");

    public static void main(String[] args) {
        for (int posts : new int[] {1, 2, 7, 8}) {
            numbersOfPosts(posts);
        }
        for (int posts : new int[] {3, 8}) {
            numbersOfPostsOfThings(posts);
        }
        numbersOfLegs();
        for (int things : new int[] {1, 2, 39, 40}) {
            numbersOfThings(things);
        }
        hands();
        kinds();
        cents();
        grams();
        daysAndFactors();
        whats();
        roomForPosts();
        roomForLegs();
        roomForThings();
        checks.end();
    }

    private static void within(String what, int least, int most, Class<? extends RuntimeException> thrown,
            Supplier<Trial> world, Deed deed) {
        for (int fine : new int[] {least, most}) {
            Trial x = world.get();
            checks.isAnswered(what + " of " + fine, () -> deed.with(x, fine));
        }
        for (int wrong : new int[] {least - 1, most + 1, Integer.MIN_VALUE, Integer.MAX_VALUE}) {
            Trial x = world.get();
            checks.isRefused(what + " of " + wrong, thrown, x, () -> deed.with(x, wrong));
        }
    }

    // ---- "if there is no such POST", "no such LEG", "no such THING", "not so many HANDS"

    private static void numbersOfPosts(int posts) {
        int last = posts - 1;
        Supplier<Trial> world = () -> Worlds.withPosts(posts);
        within("rates: post", 0, last, INDEX, world, (x, post) -> x.rates(post, LETTER, 1, 1));
        within("due: post", 0, last, INDEX, world, (x, post) -> x.due(post, LETTER, 1));
        within("charge: post", 0, last, INDEX, world, (x, post) -> x.charge(post, 1));
        within("coupon: post", 0, last, INDEX, world, (x, post) -> x.coupon(post, 1));
        within("strike: post", 0, last, INDEX, world, (x, post) -> x.strike(post, true));
        within("days: from", 0, last, INDEX, world, (x, post) -> x.days(post, last));
        within("days: to", 0, last, INDEX, world, (x, post) -> x.days(0, post));
        within("daysAnew: from", 0, last, INDEX, world, (x, post) -> x.daysAnew(post, last));
        within("daysAnew: to", 0, last, INDEX, world, (x, post) -> x.daysAnew(0, post));
        within("next: from", 0, last, INDEX, world, (x, post) -> x.next(post, last));
        within("next: to", 0, last, INDEX, world, (x, post) -> x.next(0, post));
        within("rate: from", 0, last, INDEX, world, (x, post) -> x.rate(LETTER, post, 1, false));
        within("account: post", 0, last, INDEX, world, (x, post) -> x.account(post));
        within("till: post", 0, last, INDEX, world, (x, post) -> x.till(post));
        within("counted: from", 0, last, INDEX, world, (x, post) -> x.counted(post, last));
        within("counted: to", 0, last, INDEX, world, (x, post) -> x.counted(0, post));
    }

    /** The other post is one between the first and the last one, so that both are other posts than it. */
    private static void numbersOfPostsOfThings(int posts) {
        int last = posts - 1;
        Supplier<Trial> world = () -> Worlds.withPosts(posts);
        within("leg: one", 0, last, INDEX, world, (x, post) -> x.leg(post, 1, 1));
        within("leg: other", 0, last, INDEX, world, (x, post) -> x.leg(1, post, 1));
        within("mail: from", 0, last, INDEX, world, (x, post) -> x.mail(LETTER, post, 1, 1, 0, true));
        within("mail: to", 0, last, INDEX, world, (x, post) -> x.mail(LETTER, 1, post, 1, 0, true));
        Supplier<Trial> mailed = () -> {
            Trial x = Worlds.withPosts(posts);
            x.mail(LETTER, 1, 2, 1, 0, true);
            return x;
        };
        within("redirect: to", 0, last, INDEX, mailed, (x, post) -> x.redirect(0, post));
    }

    private static void numbersOfLegs() {
        for (int legs : new int[] {1, 19, 20}) {
            within("close: leg", 0, legs - 1, INDEX, () -> Worlds.withLegs(legs), (x, leg) -> x.close(leg, true));
        }
    }

    private static void numbersOfThings(int things) {
        int last = things - 1;
        Supplier<Trial> world = () -> Worlds.withThings(things);
        within("redirect: thing", 0, last, INDEX, world, (x, thing) -> x.redirect(thing, 1));
        within("refuse: thing", 0, last, INDEX, world, (x, thing) -> x.refuse(thing, true));
        within("lose: thing", 0, last, INDEX, world, (x, thing) -> x.lose(thing));
        within("ofThing: thing", 0, last, INDEX, world, (x, thing) -> x.ofThing(thing, 0));
        within("hand: thing", 0, last, INDEX, world, (x, thing) -> x.hand(thing, 0));
        Supplier<Trial> lost = () -> {
            Trial x = Worlds.withThings(things);
            x.lose(0);
            if (last > 0) {
                x.lose(last);
            }
            return x;
        };
        within("claim: thing", 0, last, INDEX, lost, (x, thing) -> x.claim(thing));
    }

    private static void hands() {
        within("hand: place, of one that waits", 0, 0, INDEX, () -> Worlds.withThings(1), (x, place) -> x.hand(0, place));
        within("hand: place, of one that arrived twice", 0, 2, INDEX, () -> arrivedTwice(true), (x, place) -> x.hand(0, place));
        for (int place : new int[] {0, -1, 1, Integer.MIN_VALUE, Integer.MAX_VALUE}) {
            Trial x = arrivedTwice(false);
            checks.isRefused("hand: place of " + place + ", not registered", INDEX, x, () -> x.hand(0, place));
        }
    }

    private static Trial arrivedTwice(boolean isRegistered) {
        Trial x = Worlds.row(3, 1);
        x.mail(LETTER, 0, 2, 1, 0, isRegistered);
        x.go(3);
        return x;
    }

    // ---- "out of range"

    private static void kinds() {
        Supplier<Trial> world = () -> Worlds.withPosts(2);
        within("rates: kind", LETTER, PRINT, ARGUMENT, world, (x, kind) -> x.rates(1, kind, 1, 1));
        within("due: kind", LETTER, PRINT, ARGUMENT, world, (x, kind) -> x.due(1, kind, 1));
        within("mail: kind", LETTER, PRINT, ARGUMENT, world, (x, kind) -> x.mail(kind, 0, 1, 20, 0, true));
        within("rate: kind", LETTER, PRINT, ARGUMENT, world, (x, kind) -> x.rate(kind, 1, 20, true));
    }

    private static void cents() {
        Supplier<Trial> world = () -> Worlds.withPosts(2);
        for (int each = LETTER; each <= PRINT; each++) {
            int kind = each;
            within("rates: first", 0, 10000, ARGUMENT, world, (x, cents) -> x.rates(1, kind, cents, 10000));
            within("rates: further", 0, 10000, ARGUMENT, world, (x, cents) -> x.rates(1, kind, 0, cents));
            within("due: cents", 0, 10000, ARGUMENT, world, (x, cents) -> x.due(1, kind, cents));
            within("mail: paid", 0, 100000, ARGUMENT, world, (x, paid) -> x.mail(kind, 0, 1, 1, paid, false));
        }
        within("charge: cents", 0, 1000, ARGUMENT, world, (x, cents) -> x.charge(1, cents));
        within("coupon: cents", 0, 10000, ARGUMENT, world, (x, cents) -> x.coupon(1, cents));
    }

    private static void grams() {
        Supplier<Trial> world = () -> Worlds.withPosts(2);
        for (boolean isRegistered : new boolean[] {false, true}) {
            for (int each = LETTER; each <= PRINT; each++) {
                int kind = each;
                int most = kind == CARD ? 20 : 2000;
                within("mail: grams of kind " + kind, 1, most, ARGUMENT, world,
                    (x, grams) -> x.mail(kind, 0, 1, grams, 0, isRegistered));
                within("rate: grams of kind " + kind, 1, most, ARGUMENT, world,
                    (x, grams) -> x.rate(kind, 0, grams, isRegistered));
            }
        }
    }

    private static void daysAndFactors() {
        within("leg: days", 1, 100, ARGUMENT, () -> Worlds.withPosts(2), (x, days) -> x.leg(0, 1, days));
        within("go: days", 1, 200, ARGUMENT, () -> Worlds.withThings(1), (x, days) -> x.go(days));
        within("settle: factor", 1, 1000, ARGUMENT, Worlds::busy, (x, factor) -> x.settle(factor));
    }

    private static void whats() {
        within("ofThing: what", 0, 6, ARGUMENT, () -> Worlds.withThings(1), (x, what) -> x.ofThing(0, what));
        within("gain: what", 0, 2, ARGUMENT, Worlds::busy, (x, what) -> x.gain(what));
        within("gain: what, of no post", 0, 2, ARGUMENT, Trial::new, (x, what) -> x.gain(what));
    }

    // ---- "at most 8", "at most 20", "at most 40"

    private static void roomForPosts() {
        Trial x = new Trial();
        for (int number = 0; number < 8; number++) {
            checks.is("post()", x.post(), number);
        }
        checks.isBadState("post() where there are 8", x, x::post);
        checks.isBadState("post() where there are 8, again", x, x::post);
    }

    private static void roomForLegs() {
        Trial x = Worlds.withPosts(2);
        for (int number = 0; number < 20; number++) {
            checks.is("leg()", x.leg(1, 0, 100 - number), number);
        }
        checks.is("the twentieth leg is one to go", x.next(0, 1), 19);
        checks.isBadState("leg() where there are 20", x, () -> x.leg(0, 1, 1));
        x.close(19, true);
        checks.isBadState("leg() where there are 20, one of them closed", x, () -> x.leg(0, 1, 1));
        checks.isBadState("leg() where there are 20, again", x, () -> x.leg(1, 0, 100));
    }

    private static void roomForThings() {
        Trial x = Worlds.withLegs(1);
        for (int number = 0; number < 40; number++) {
            checks.is("mail()", x.mail(number % 3, number % 2, 1 - number % 2, 1, number, number % 5 == 0), number);
        }
        checks.isBadState("mail() where there are 40", x, () -> x.mail(LETTER, 0, 1, 1, 0, true));
        x.lose(39);
        checks.is("all but the lost one are delivered", x.go(2), 39);
        checks.isBadState("mail() where there were 40", x, () -> x.mail(PRINT, 0, 1, 1, 0, false));
    }
}
