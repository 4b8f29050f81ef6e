/** Promises 1 to 7, 21, 24, 25 and 27: posts, what they tell, rates and gains. */
public final class PostsTest {
    private static final int LETTER = Postunion.LETTER, CARD = Postunion.CARD, PRINT = Postunion.PRINT;
    private static final int NONE = Postunion.NONE;
    private static final Checks checks = new Checks("PostsTest");

    public static void main(String[] args) {
        promise1NewObject();
        promise2Post();
        promise3Rates();
        promise4Due();
        promise5Charge();
        promise6Coupon();
        promise7Strike();
        promise21Rate();
        promise24And25AccountAndTill();
        promise27Gain();
        checks.end();
    }

    private static void promise1NewObject() {
        Trial x = new Trial();
        checks.isNoSuch("account(0) of a new object", x, () -> x.account(0));
        checks.isNoSuch("till(0) of a new object", x, () -> x.till(0));
        checks.isNoSuch("days(0, 0) of a new object", x, () -> x.days(0, 0));
        checks.isNoSuch("close(0) of a new object", x, () -> x.close(0, true));
        checks.isNoSuch("ofThing(0, 0) of a new object", x, () -> x.ofThing(0, 0));
        checks.is("gain(0) of a new object", x.gain(0), NONE);
        checks.is("settle(1) of a new object", x.settle(1), 0);
        checks.is("go(200) of a new object", x.go(200), 0);
        checks.is("sample of a new object", x.sample(true), false);
        Trial y = new Trial();
        checks.is("sample of another object", y.sample(false), false);
        x.post();
        checks.isNoSuch("the post of another object", y, () -> y.account(0));
    }

    private static void promise2Post() {
        Trial x = new Trial();
        for (int number = 0; number < 8; number++) {
            checks.is("post()", x.post(), number);
        }
        checks.isBadState("a ninth post", x, x::post);
        checks.isBadState("a ninth post again", x, x::post);
        checks.is("account of the eighth", x.account(7), 0);
        checks.isNoSuch("account of a ninth", x, () -> x.account(8));
    }

    private static void promise3Rates() {
        Trial x = Worlds.withPosts(2);
        for (int kind = LETTER; kind <= PRINT; kind++) {
            checks.is("a rate at first", x.rate(kind, 0, 20, false), 0);
        }
        x.rates(0, LETTER, 10000, 10000);
        x.rates(0, CARD, 7, 3);
        x.rates(0, PRINT, 0, 5);
        checks.is("letters", x.rate(LETTER, 0, 21, false), 20000);
        checks.is("cards", x.rate(CARD, 0, 20, false), 7);
        checks.is("prints", x.rate(PRINT, 0, 60, false), 10);
        checks.is("of the other post", x.rate(LETTER, 1, 60, false), 0);
        x.rates(0, LETTER, 2, 1);
        checks.is("letters, told anew", x.rate(LETTER, 0, 21, false), 3);
        checks.isNoSuch("rates of post -1", x, () -> x.rates(-1, LETTER, 1, 1));
        checks.isNoSuch("rates of post 2", x, () -> x.rates(2, LETTER, 1, 1));
        checks.isNoSuch("rates of no post, all wrong", x, () -> x.rates(2, 3, -1, 10001));
        checks.isBadArgument("rates of kind -1", x, () -> x.rates(0, -1, 1, 1));
        checks.isBadArgument("rates of kind 3", x, () -> x.rates(0, 3, 1, 1));
        checks.isBadArgument("first of -1", x, () -> x.rates(0, LETTER, -1, 1));
        checks.isBadArgument("first of 10001", x, () -> x.rates(0, LETTER, 10001, 1));
        checks.isBadArgument("further of -1", x, () -> x.rates(0, LETTER, 1, -1));
        checks.isBadArgument("further of 10001", x, () -> x.rates(0, LETTER, 1, 10001));
    }

    private static void promise4Due() {
        Trial x = Worlds.withPosts(2);
        checks.is("first due", x.due(0, LETTER, 10000), 0);
        checks.is("due of another kind", x.due(0, PRINT, 4), 0);
        checks.is("due of another post", x.due(1, LETTER, 5), 0);
        checks.isNoSuch("due of post 2", x, () -> x.due(2, LETTER, 1));
        checks.isNoSuch("due of post -1, all wrong", x, () -> x.due(-1, 3, -1));
        checks.isBadArgument("due of kind -1", x, () -> x.due(0, -1, 1));
        checks.isBadArgument("due of kind 3", x, () -> x.due(0, 3, 1));
        checks.isBadArgument("due of -1", x, () -> x.due(0, LETTER, -1));
        checks.isBadArgument("due of 10001", x, () -> x.due(0, LETTER, 10001));
        checks.is("due before", x.due(0, LETTER, 0), 10000);
        checks.is("due before of a print", x.due(0, PRINT, 1), 4);
        checks.is("due before of a card", x.due(0, CARD, 1), 0);
        checks.is("due of 0 before", x.due(0, LETTER, 1), 0);
    }

    private static void promise5Charge() {
        Trial x = Worlds.withPosts(2);
        checks.is("first charge", x.charge(1, 1000), 0);
        checks.isNoSuch("charge of post 2", x, () -> x.charge(2, 1));
        checks.isNoSuch("charge of post -1, of -1", x, () -> x.charge(-1, -1));
        checks.isBadArgument("charge of -1", x, () -> x.charge(1, -1));
        checks.isBadArgument("charge of 1001", x, () -> x.charge(1, 1001));
        checks.is("charge before", x.charge(1, 0), 1000);
        checks.is("charge of 0 before", x.charge(1, 3), 0);
        checks.is("charge of the other", x.charge(0, 3), 0);
    }

    private static void promise6Coupon() {
        Trial x = Worlds.withPosts(2);
        checks.is("first price", x.coupon(1, 10000), 0);
        checks.isNoSuch("coupon of post 2", x, () -> x.coupon(2, 1));
        checks.isNoSuch("coupon of post -1, of -1", x, () -> x.coupon(-1, -1));
        checks.isBadArgument("coupon of -1", x, () -> x.coupon(1, -1));
        checks.isBadArgument("coupon of 10001", x, () -> x.coupon(1, 10001));
        checks.is("price before", x.coupon(1, 0), 10000);
        checks.is("price of 0 before", x.coupon(1, 3), 0);
        checks.is("price of the other", x.coupon(0, 3), 0);
    }

    private static void promise7Strike() {
        Trial x = Worlds.withPosts(2);
        checks.is("strike at first", x.strike(0, false), false);
        checks.is("strike told", x.strike(0, true), false);
        checks.is("strike told again", x.strike(0, true), true);
        checks.is("strike of the other", x.strike(1, false), false);
        checks.is("strike ended", x.strike(0, false), true);
        checks.is("no strike any more", x.strike(0, false), false);
        checks.isNoSuch("strike of post 2", x, () -> x.strike(2, true));
        checks.isNoSuch("strike of post -1", x, () -> x.strike(-1, true));
        x.leg(0, 1, 1);
        x.strike(0, true);
        checks.is("routes from a striking post", x.next(0, 1), 0);
        x.mail(LETTER, 0, 1, 1, 0, false);
        checks.is("go while it strikes", x.go(10), 0);
        checks.is("what is at a striking post waits", x.ofThing(0, 0), Postunion.WAITS);
        x.strike(0, false);
        x.strike(1, true);
        checks.is("a striking post delivers", x.go(2), 1);
    }

    private static void promise21Rate() {
        Trial x = Worlds.withPosts(1);
        x.rates(0, LETTER, 100, 7);
        x.rates(0, CARD, 60, 9);
        checks.is("1 gram", x.rate(LETTER, 0, 1, false), 100);
        checks.is("20 grams", x.rate(LETTER, 0, 20, false), 100);
        checks.is("21 grams", x.rate(LETTER, 0, 21, false), 107);
        checks.is("40 grams", x.rate(LETTER, 0, 40, false), 107);
        checks.is("41 grams", x.rate(LETTER, 0, 41, false), 114);
        checks.is("2000 grams", x.rate(LETTER, 0, 2000, false), 100 + 99 * 7);
        checks.is("registered", x.rate(LETTER, 0, 41, true), 164);
        checks.is("a registered card", x.rate(CARD, 0, 20, true), 110);
        checks.is("a registered print", x.rate(PRINT, 0, 2000, true), 50);
        x.rates(0, PRINT, 10000, 10000);
        checks.is("the dearest", x.rate(PRINT, 0, 2000, true), 1000050);
        checks.isNoSuch("rate of post 1", x, () -> x.rate(LETTER, 1, 1, false));
        checks.isNoSuch("rate of post -1, all wrong", x, () -> x.rate(-1, -1, 0, false));
        checks.isBadArgument("rate of kind -1", x, () -> x.rate(-1, 0, 1, false));
        checks.isBadArgument("rate of kind 3", x, () -> x.rate(3, 0, 1, false));
        checks.isBadArgument("rate of 0 grams", x, () -> x.rate(LETTER, 0, 0, false));
        checks.isBadArgument("rate of 2001 grams", x, () -> x.rate(PRINT, 0, 2001, false));
        checks.isBadArgument("rate of a card of 21 grams", x, () -> x.rate(CARD, 0, 21, false));
        checks.isBadArgument("rate of the least grams", x, () -> x.rate(LETTER, 0, Integer.MIN_VALUE, false));
    }

    private static void promise24And25AccountAndTill() {
        Trial x = Worlds.withPosts(3);
        x.leg(0, 1, 1);
        x.leg(1, 2, 1);
        x.charge(1, 9);
        x.mail(LETTER, 0, 2, 11, 100000, false);
        x.mail(LETTER, 0, 1, 11, 3, false);
        checks.is("till of the origin", x.till(0), 100003);
        checks.is("till of a target", x.till(1), 0);
        x.go(2);
        checks.is("account of the origin", x.account(0), -18);
        checks.is("account on the way", x.account(1), 18);
        checks.is("account of the target", x.account(2), 0);
        for (int post : new int[] {-1, 3, 8, Integer.MIN_VALUE, Integer.MAX_VALUE}) {
            checks.isNoSuch("account(" + post + ")", x, () -> x.account(post));
            checks.isNoSuch("till(" + post + ")", x, () -> x.till(post));
        }
    }

    private static void promise27Gain() {
        Trial x = Worlds.withPosts(4);
        x.rates(1, LETTER, 40, 99);
        x.rates(2, LETTER, 40, 0);
        x.rates(3, CARD, 9000, 0);
        checkGain(x, "no coupon is sold", NONE, NONE, NONE);
        x.coupon(3, 40);
        checkGain(x, "a gain of 0", NONE, NONE, NONE);
        x.coupon(3, 39);
        checkGain(x, "of several the lowest other", 1, 3, 1);
        x.coupon(0, 39);
        checkGain(x, "of several the lowest one", 1, 0, 1);
        x.coupon(1, 38);
        checkGain(x, "the greatest", 2, 1, 2);
        x.rates(1, LETTER, 10000, 0);
        x.coupon(1, 1);
        checkGain(x, "not at the post itself", 9961, 0, 1);
        x.rates(1, LETTER, 0, 0);
        checkGain(x, "rates of now", 39, 1, 2);
        x.rates(0, LETTER, 41, 0);
        checkGain(x, "to the first post", 40, 1, 0);
        checks.isBadArgument("gain(-1)", x, () -> x.gain(-1));
        checks.isBadArgument("gain(3)", x, () -> x.gain(3));
        Trial alone = Worlds.withPosts(1);
        alone.coupon(0, 1);
        alone.rates(0, LETTER, 100, 0);
        checkGain(alone, "a post alone", NONE, NONE, NONE);
        checks.isBadArgument("gain(3) where there is none", alone, () -> alone.gain(3));
    }

    private static void checkGain(Trial x, String what, int gain, int one, int other) {
        checks.is("gain(0): " + what, x.gain(0), gain);
        checks.is("gain(1): " + what, x.gain(1), one);
        checks.is("gain(2): " + what, x.gain(2), other);
    }
}
