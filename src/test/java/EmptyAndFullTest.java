/** The empty union, one of a single post, the full one, the greatest sums, and an object's 512th call. */
public final class EmptyAndFullTest {
    private static final int LETTER = Postunion.LETTER, CARD = Postunion.CARD, PRINT = Postunion.PRINT;
    private static final int NONE = Postunion.NONE;
    private static final Checks checks = new Checks("EmptyAndFullTest");

    public static void main(String[] args) {
        emptyRefusesNumbers();
        emptyAnswers();
        singlePost();
        fullRow();
        fullOfLegs();
        fullOfThings();
        greatestRatesAndTaxes();
        greatestCountAndSettling();
        greatestClaims();
        greatestGain();
        accountsBeyondAnInt();
        lastCall();
        objectsApart();
        checks.end();
    }

    // ---- promise 1: "Begins without POSTS, LEGS and THINGS"

    private static void emptyRefusesNumbers() {
        for (int no : new int[] {0, -1, 7, 8, 19, 39, Integer.MIN_VALUE, Integer.MAX_VALUE}) {
            Trial x = new Trial();
            checks.isNoSuch("rates(" + no + ")", x, () -> x.rates(no, LETTER, 1, 1));
            checks.isNoSuch("due(" + no + ")", x, () -> x.due(no, LETTER, 1));
            checks.isNoSuch("charge(" + no + ")", x, () -> x.charge(no, 1));
            checks.isNoSuch("coupon(" + no + ")", x, () -> x.coupon(no, 1));
            checks.isNoSuch("strike(" + no + ")", x, () -> x.strike(no, true));
            checks.isNoSuch("leg(" + no + ")", x, () -> x.leg(no, no + 1, 1));
            checks.isNoSuch("close(" + no + ")", x, () -> x.close(no, true));
            checks.isNoSuch("days(" + no + ")", x, () -> x.days(no, no));
            checks.isNoSuch("daysAnew(" + no + ")", x, () -> x.daysAnew(no, no));
            checks.isNoSuch("next(" + no + ")", x, () -> x.next(no, no));
            checks.isNoSuch("mail(" + no + ")", x, () -> x.mail(LETTER, no, no + 1, 1, 0, true));
            checks.isNoSuch("redirect(" + no + ")", x, () -> x.redirect(no, no));
            checks.isNoSuch("refuse(" + no + ")", x, () -> x.refuse(no, true));
            checks.isNoSuch("lose(" + no + ")", x, () -> x.lose(no));
            checks.isNoSuch("claim(" + no + ")", x, () -> x.claim(no));
            checks.isNoSuch("rate(" + no + ")", x, () -> x.rate(LETTER, no, 1, true));
            checks.isNoSuch("ofThing(" + no + ")", x, () -> x.ofThing(no, 0));
            checks.isNoSuch("hand(" + no + ")", x, () -> x.hand(no, 0));
            checks.isNoSuch("account(" + no + ")", x, () -> x.account(no));
            checks.isNoSuch("till(" + no + ")", x, () -> x.till(no));
            checks.isNoSuch("counted(" + no + ")", x, () -> x.counted(no, no));
        }
    }

    private static void emptyAnswers() {
        Trial x = new Trial();
        checks.is("go(1) of an empty union", x.go(1), 0);
        checks.is("go(200) of an empty union", x.go(200), 0);
        checks.is("settle(1) of an empty union", x.settle(1), 0);
        checks.is("settle(1000) of an empty union", x.settle(1000), 0);
        for (int what = 0; what < 3; what++) {
            checks.is("gain(" + what + ") of an empty union", x.gain(what), NONE);
        }
        checks.is("sample of an empty union", x.sample(true), false);
        checks.is("sample of an empty union, again", x.sample(false), true);
        checks.is("the first post has number 0", x.post(), 0);
    }

    private static void singlePost() {
        Trial x = Worlds.withPosts(1);
        x.rates(0, LETTER, 100, 0);
        x.coupon(0, 1);
        checks.is("days of a post alone", x.days(0, 0), 0);
        checks.is("daysAnew of a post alone", x.daysAnew(0, 0), 0);
        checks.is("next of a post alone", x.next(0, 0), NONE);
        checks.is("gain of a post alone", x.gain(0), NONE);
        checks.is("counted of a post alone", x.counted(0, 0), 0);
        checks.is("settle of a post alone", x.settle(1000), 0);
        checks.isBadArgument("leg of a post alone", x, () -> x.leg(0, 0, 1));
        checks.isNoSuch("leg to a second post", x, () -> x.leg(0, 1, 1));
        checks.isBadArgument("mail of a post alone", x, () -> x.mail(LETTER, 0, 0, 1, 0, false));
        checks.isNoSuch("mail to a second post", x, () -> x.mail(LETTER, 0, 1, 1, 0, false));
    }

    // ---- the full union

    /** The longest way: seven legs of 100 days, which a thing goes in 701 days, by four calls of go. */
    private static void fullRow() {
        Trial x = Worlds.row(8, 100);
        checks.is("the most days", x.days(0, 7), 700);
        checks.is("the most days, back", x.days(7, 0), 700);
        checks.is("the most days, anew", x.daysAnew(0, 7), 700);
        checks.is("the most days, anew, back", x.daysAnew(7, 0), 700);
        x.mail(LETTER, 0, 7, 1, 0, true);
        checks.is("days 1 to 200", x.go(200), 0);
        checks.is("days 201 to 400", x.go(200), 0);
        checks.is("days 401 to 600", x.go(200), 0);
        checks.is("days 601 to 700", x.go(100), 0);
        checks.is("a day is left", x.ofThing(0, 2), 1);
        checks.is("day 701", x.go(1), 1);
        checks.is("a hand of each post", x.ofThing(0, 6), 8);
        for (int place = 0; place < 8; place++) {
            checks.is("hand " + place, x.hand(0, place), place);
        }
    }

    /** Eight posts and twenty legs of unlike days, of which some are closed: each route, by a reckoning of its own. */
    private static void fullOfLegs() {
        int[][] legs = new int[20][];
        Trial x = Worlds.withPosts(8);
        for (int number = 0; number < 20; number++) {
            int one = number % 8;
            int other = (one + 1 + number / 8 * 2) % 8;
            legs[number] = new int[] {one, other, 1 + number * 37 % 100};
            x.leg(one, other, legs[number][2]);
        }
        checkRoutes(x, legs, -1, 0);
        for (int closed = 0; closed < 20; closed += 19) {
            x.close(closed, true);
            checkRoutes(x, legs, closed, 3);
            x.close(closed, false);
        }
    }

    private static void checkRoutes(Trial x, int[][] legs, int closed, int from) {
        for (int to = 0; to < 8; to++) {
            int days = leastDays(legs, closed, from, to, 7);
            String both = "(" + from + ", " + to + ") without " + closed;
            checks.is("days" + both, x.days(from, to), days);
            checks.is("daysAnew" + both, x.daysAnew(from, to), days);
            checks.is("days back" + both, x.days(to, from), days);
            checks.is("daysAnew back" + both, x.daysAnew(to, from), days);
        }
    }

    /** The least days by at most so many legs; 1000000 if nothing leads there. */
    private static int leastDays(int[][] legs, int closed, int from, int to, int most) {
        int least = from == to ? 0 : 1000000;
        for (int number = 0; number < legs.length && most > 0; number++) {
            int[] leg = legs[number];
            if (number != closed && (leg[0] == from || leg[1] == from)) {
                int far = leg[0] + leg[1] - from;
                least = Math.min(least, leg[2] + leastDays(legs, closed, far, to, from == to ? 0 : most - 1));
            }
        }
        return least;
    }

    private static void fullOfThings() {
        Trial x = Worlds.row(8, 1);
        for (int thing = 0; thing < 40; thing++) {
            x.mail(LETTER, thing % 7, 7, 1, 0, thing >= 20);
        }
        for (int day = 1; day <= 8; day++) {
            // Things 0 to 39 come from posts 0 to 6 in turn, so five of each, six of posts 0 to 4.
            int due = day == 1 ? 0 : day <= 3 ? 5 : 6;
            checks.is("delivered on day " + day, x.go(1), due);
        }
        checks.is("all are delivered", x.go(200), 0);
        checks.is("hands of the last one", x.ofThing(39, 6), 4);
        checks.isNoSuch("a hand of one that is not registered", x, () -> x.hand(19, 0));
        checks.is("a hand of one that is", x.hand(20, 0), 6);
        checks.isBadState("a thing more, all being delivered", x, () -> x.mail(LETTER, 0, 7, 1, 0, true));
    }

    // ---- the greatest sums

    private static void greatestRatesAndTaxes() {
        Trial x = Worlds.withLegs(1);
        x.rates(0, LETTER, 1, 0);
        x.rates(0, PRINT, 10000, 10000);
        x.rates(1, LETTER, 10000, 0);
        checks.is("the greatest rate", x.rate(PRINT, 0, 2000, true), 1000050);
        checks.is("the greatest rate of a card", x.rate(CARD, 0, 20, true), 50);
        for (int thing = 0; thing < 40; thing++) {
            x.mail(PRINT, 0, 1, 2000, 0, true);
        }
        checks.is("the greatest tax", x.ofThing(39, 4), 20001000000L);
        x.go(2);
        checks.is("the greatest till", x.till(1), 800040000000L);
        Trial y = Worlds.withPosts(2);
        for (int thing = 0; thing < 40; thing++) {
            y.mail(LETTER, 0, 1, 1, 100000, true);
        }
        checks.is("the most that is paid", y.till(0), 4000000);
    }

    private static void greatestCountAndSettling() {
        Trial x = Worlds.withLegs(1);
        x.sample(true);
        x.due(1, CARD, 10000);
        for (int thing = 0; thing < 40; thing++) {
            x.mail(CARD, 0, 1, 1, 0, false);
        }
        checks.is("all are delivered", x.go(2), 40);
        checks.is("the most that is counted", x.counted(0, 1), 400000);
        checks.is("the most that is settled", x.settle(1000), 400000000);
        checks.is("account of the origin", x.account(0), -400000000);
        checks.is("account of the target", x.account(1), 400000000);
        checks.is("nothing is counted any more", x.counted(0, 1), 0);
        checks.is("nothing is settled any more", x.settle(1000), 0);
    }

    private static void greatestClaims() {
        Trial x = Worlds.row(4, 100);
        x.strike(1, true);
        for (int thing = 0; thing < 40; thing++) {
            x.mail(LETTER, 0, 3, 1, 0, true);
        }
        x.go(101);
        for (int thing = 0; thing < 40; thing++) {
            x.lose(thing);
            checks.is("claim", x.claim(thing), 4000);
        }
        checks.is("till of the origin", x.till(0), -160000);
        checks.is("account of the origin", x.account(0), 160000);
        checks.is("account of the post where they waited", x.account(1), -160000);
    }

    private static void greatestGain() {
        Trial x = Worlds.withPosts(8);
        x.coupon(7, 1);
        x.rates(6, LETTER, 10000, 0);
        checks.is("the greatest gain", x.gain(0), 9999);
        checks.is("where it is sold", x.gain(1), 7);
        checks.is("where it stands", x.gain(2), 6);
    }

    /**
     * Forty things of the most grams, at the greatest charge, are sent to and fro on a row of posts, as now
     * one and now the other of its ends alone leads to their target, and never come so far.
     */
    private static void accountsBeyondAnInt() {
        Trial x = Worlds.withPosts(8);
        for (int post = 1; post < 6; post++) {
            x.leg(post, post + 1, 1);
        }
        x.leg(0, 1, 1);
        x.leg(1, 7, 1);
        x.leg(6, 7, 1);
        x.close(6, true);
        for (int post = 0; post < 8; post++) {
            x.charge(post, 1000);
        }
        for (int thing = 0; thing < 40; thing++) {
            x.mail(PRINT, 0, 7, 2000, 0, true);
        }
        checks.is("from the origin to post 6, but for a day", x.go(6), 0);
        int sweeps = 60;
        for (int sweep = 0; sweep < sweeps; sweep++) {
            x.close(6, sweep % 2 == 1);
            x.close(7, sweep % 2 == 0);
            checks.is("none is delivered", x.go(5), 0);
        }
        long charges = (5L + 5L * sweeps) * 40 * 200000;
        checks.is("an account below all ints", x.account(0), -charges);
        long others = 0;
        for (int post = 1; post < 8; post++) {
            others += x.account(post);
        }
        checks.is("the accounts net to nought", others, charges);
        checks.is("hands", x.ofThing(39, 6), 6 + 5 * sweeps);
        checks.is("the latest of them", x.lose(39), x.hand(39, 5 + 5 * sweeps));
    }

    // ---- "at most 512 calls after it has been made"

    private static void lastCall() {
        Trial x = Worlds.withPosts(8);
        while (x.callsMade() < Trial.MOST_CALLS - 3) {
            x.account(7);
        }
        checks.isThrown("call 510", IllegalStateException.class, x::post);
        checks.is("call 511", x.charge(7, 1000), 0);
        checks.is("call 512", x.charge(7, 1), 1000);
        checks.is("so many calls are made", x.callsMade(), 512);
    }

    private static void objectsApart() {
        Trial x = Worlds.busy();
        Trial y = new Trial();
        x.go(1);
        checks.is("posts of another object", y.post(), 0);
        checks.is("till of another object", y.till(0), 0);
        checks.is("samples of another object", y.sample(false), false);
        checks.isNoSuch("things of another object", y, () -> y.ofThing(0, 0));
        checks.isNoSuch("legs of another object", y, () -> y.close(0, true));
    }
}
