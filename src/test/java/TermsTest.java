/** The sentences of "Terms", one by one, each with the edge that it names. Its order is that of the document. */
public final class TermsTest {
    private static final int LETTER = Postunion.LETTER, CARD = Postunion.CARD, PRINT = Postunion.PRINT;
    private static final int WAITS = Postunion.WAITS, TRAVELS = Postunion.TRAVELS;
    private static final int DELIVERED = Postunion.DELIVERED, LOST = Postunion.LOST;
    private static final int NONE = Postunion.NONE;
    private static final Checks checks = new Checks("TermsTest");

    public static void main(String[] args) {
        postsAtFirst();
        toldCountsFromThenOn();
        rates();
        legsAtFirst();
        daysToItself();
        nextAmongSeveral();
        strikesAndRoutes();
        paidAndShort();
        hands();
        taxes();
        taxRoundedDownToNought();
        travelsForDays();
        targetAsItIsThen();
        backIsDelivered();
        refusedOrNot();
        taxIntoTill();
        dues();
        samplesOnTheDay();
        strikes();
        noNextLeg();
        charges();
        chargeOfThen();
        chargesBack();
        noChargeAtTheOrigin();
        closedWhileItTravels();
        redirectedAndRefused();
        settles();
        claims();
        claimsOnTheWayBack();
        coupons();
        checks.end();
    }

    private static void checkAccounts(Trial x, String what, long... wants) {
        for (int post = 0; post < wants.length; post++) {
            checks.is("account of " + post + ": " + what, x.account(post), wants[post]);
        }
    }

    private static void checkTills(Trial x, String what, long... wants) {
        for (int post = 0; post < wants.length; post++) {
            checks.is("till of " + post + ": " + what, x.till(post), wants[post]);
        }
    }

    private static void checkThing(Trial x, String what, int thing, int does, int place, int daysLeft, int target) {
        checks.is(what + ": what thing " + thing + " does", x.ofThing(thing, 0), does);
        checks.is(what + ": where thing " + thing + " is", x.ofThing(thing, 1), place);
        checks.is(what + ": days left of thing " + thing, x.ofThing(thing, 2), daysLeft);
        checks.is(what + ": target of thing " + thing, x.ofThing(thing, 3), target);
    }

    private static void checkHands(Trial x, int thing, int... posts) {
        checks.is("how many hands thing " + thing + " has", x.ofThing(thing, 6), posts.length);
        for (int place = 0; place < posts.length; place++) {
            checks.is("hand " + place + " of thing " + thing, x.hand(thing, place), posts[place]);
        }
    }

    // ---- posts, rates

    /** "all of these are 0 at first"; "It may STRIKE; it does not at first"; account and till "0 at first". */
    private static void postsAtFirst() {
        Trial x = Worlds.withPosts(8);
        for (int post = 0; post < 8; post++) {
            for (int kind = LETTER; kind <= PRINT; kind++) {
                checks.is("rate at first", x.rate(kind, post, 20, false), 0);
                checks.is("further rate at first", x.rate(kind, post, kind == CARD ? 20 : 2000, false), 0);
                checks.is("due at first", x.due(post, kind, 1), 0);
            }
            checks.is("charge at first", x.charge(post, 1), 0);
            checks.is("price of a coupon at first", x.coupon(post, 1), 0);
            checks.is("strike at first", x.strike(post, true), false);
            checks.is("account at first", x.account(post), 0);
            checks.is("till at first", x.till(post), 0);
        }
    }

    /** "and count from when they are told on": what was mailed, charged or delivered before stays as it was. */
    private static void toldCountsFromThenOn() {
        Trial x = Worlds.row(3, 1);
        x.mail(LETTER, 0, 2, 10, 0, true);
        x.rates(0, LETTER, 30, 0);
        x.rates(2, LETTER, 30, 0);
        checks.is("short as it was mailed: just the 50", x.ofThing(0, 4), 100);
        x.go(1);
        x.charge(1, 5);
        x.go(1);
        x.charge(1, 9);
        x.due(2, LETTER, 3);
        x.go(1);
        x.due(2, LETTER, 8);
        checkAccounts(x, "by the charge and the due of the day", -8, 5, 3);
        checks.is("delivered by the rates of the day", x.till(2), 100);
    }

    /** "its further rate for each 20 grams that are begun beyond the first 20; and 50 more if it is REGISTERED". */
    private static void rates() {
        for (int kind = LETTER; kind <= PRINT; kind++) {
            Trial x = Worlds.withPosts(1);
            x.rates(0, kind, 1000, 7);
            int due = 1000;
            for (int grams = 1; grams <= (kind == CARD ? 20 : 2000); grams += grams % 20 < 2 ? 1 : 20 - grams % 20) {
                if (grams > 20 && grams % 20 == 1) {
                    due += 7;
                }
                checks.is("rate of kind " + kind + " of " + grams, x.rate(kind, 0, grams, false), due);
                if (grams < 100 || grams > 1900) {
                    checks.is("registered rate of kind " + kind + " of " + grams, x.rate(kind, 0, grams, true), due + 50);
                }
            }
        }
    }

    // ---- legs, routes

    /** "both ways, of some days; one is open, as at first, or closed". */
    private static void legsAtFirst() {
        Trial x = Worlds.withPosts(2);
        checks.is("without a leg", x.days(0, 1), NONE);
        x.leg(1, 0, 1);
        checks.is("days of a leg", x.days(1, 0), 1);
        checks.is("days of a leg the other way", x.days(0, 1), 1);
        checks.is("next the other way", x.next(0, 1), 0);
        checks.is("closed at first", x.close(0, true), false);
        checks.is("days of a closed leg", x.days(1, 0), NONE);
        checks.is("daysAnew of a closed leg", x.daysAnew(1, 0), NONE);
        checks.is("next of a closed leg", x.next(1, 0), NONE);
        checks.is("days of a closed leg the other way", x.days(0, 1), NONE);
        checks.is("next of a closed leg the other way", x.next(0, 1), NONE);
    }

    /** "0 to itself", with legs and without. */
    private static void daysToItself() {
        Trial x = Worlds.row(3, 1);
        x.close(1, true);
        for (int post = 0; post < 3; post++) {
            checks.is("days to itself", x.days(post, post), 0);
            checks.is("daysAnew to itself", x.daysAnew(post, post), 0);
            checks.is("next to itself", x.next(post, post), NONE);
        }
        checks.is("days to a post beyond a closed leg", x.days(0, 2), NONE);
    }

    /** "the one to the POST with the lowest number, of several to it the one with the lowest number". */
    private static void nextAmongSeveral() {
        Trial x = Worlds.withPosts(4);
        x.leg(0, 2, 1);
        x.leg(2, 3, 1);
        x.leg(0, 1, 1);
        x.leg(1, 3, 1);
        checks.is("the lowest post, of a higher leg", x.next(0, 3), 2);
        checks.is("the lowest post, back", x.next(3, 0), 3);
        x.leg(1, 0, 1);
        checks.is("the lowest leg to it", x.next(0, 3), 2);
        x.close(2, true);
        checks.is("the lowest open leg to it", x.next(0, 3), 4);
        x.close(4, true);
        checks.is("the other post", x.next(0, 3), 0);
        x.close(2, false);
        checks.is("the lowest post again", x.next(0, 3), 2);
        x.leg(0, 3, 2);
        checks.is("a leg to the very post has no precedence", x.next(0, 3), 2);
        x.leg(3, 0, 1);
        checks.is("but if it is shorter", x.next(0, 3), 6);
        Trial y = Worlds.withPosts(2);
        y.leg(0, 1, 2);
        y.leg(0, 1, 1);
        y.leg(0, 1, 1);
        checks.is("a lower leg that is longer does not begin a least sum", y.next(0, 1), 1);
        y.close(1, true);
        checks.is("the next of them", y.next(0, 1), 2);
        y.close(2, true);
        checks.is("the long one at last", y.next(0, 1), 0);
    }

    /** "STRIKES do not matter for that". */
    private static void strikesAndRoutes() {
        Trial x = Worlds.row(3, 1);
        x.leg(0, 2, 3);
        for (int post = 0; post < 3; post++) {
            x.strike(post, true);
        }
        checks.is("days over a post that strikes", x.days(0, 2), 2);
        checks.is("daysAnew over a post that strikes", x.daysAnew(0, 2), 2);
        checks.is("next over a post that strikes", x.next(0, 2), 0);
    }

    // ---- things

    /** "how much the rate of then is above what is paid, 0 if it is not above it". */
    private static void paidAndShort() {
        Trial x = Worlds.withPosts(2);
        x.rates(0, PRINT, 100, 10);
        for (int paid : new int[] {0, 119, 120, 121, 100000}) {
            x.mail(PRINT, 0, 1, 41, paid, false);
        }
        x.mail(PRINT, 0, 1, 41, 169, true);
        x.mail(PRINT, 0, 1, 41, 170, true);
        int[] dues = {240, 2, 0, 0, 0, 2, 0};
        for (int thing = 0; thing < dues.length; thing++) {
            checks.is("twice what is short of thing " + thing, x.ofThing(thing, 4), dues[thing]);
            checkThing(x, "it waits at the origin then", thing, WAITS, 0, 0, 1);
        }
        checkTills(x, "all that is paid", 119 + 120 + 121 + 100000 + 169 + 170, 0);
    }

    /** "the origin, and, for each time that it arrived, also as it was DELIVERED by that, the POST .., once". */
    private static void hands() {
        Trial x = Worlds.row(3, 2);
        x.mail(LETTER, 1, 2, 1, 0, true);
        x.mail(LETTER, 0, 2, 1, 0, true);
        x.mail(LETTER, 0, 2, 1, 0, false);
        checkHands(x, 0, 1);
        checkHands(x, 1, 0);
        checkHands(x, 2);
        x.go(2);
        checkHands(x, 0, 1);
        checkHands(x, 1, 0);
        x.strike(1, true);
        x.go(1);
        checkHands(x, 0, 1, 2);
        checkHands(x, 1, 0, 1);
        x.go(5);
        checkHands(x, 0, 1, 2);
        checkHands(x, 1, 0, 1);
        x.strike(1, false);
        x.redirect(1, 0);
        x.go(3);
        checkHands(x, 1, 0, 1, 0);
        checkHands(x, 2);
        checks.is("the plain one is delivered too", x.ofThing(2, 0), DELIVERED);
        x.go(50);
        checkHands(x, 1, 0, 1, 0);
    }

    /** "divided by that of the origin, as both are when it is looked at; just twice what is short, if that is 0". */
    private static void taxes() {
        Trial x = Worlds.withPosts(3);
        x.rates(0, PRINT, 5, 0);
        x.mail(PRINT, 0, 1, 1, 0, false);
        checks.is("both have no rate", x.ofThing(0, 4), 10);
        x.rates(1, LETTER, 9, 0);
        checks.is("the origin has no rate", x.ofThing(0, 4), 10);
        x.rates(0, LETTER, 1, 0);
        checks.is("by a rate of 1", x.ofThing(0, 4), 90);
        x.rates(0, LETTER, 7, 0);
        checks.is("90 by 7, rounded down", x.ofThing(0, 4), 12);
        x.rates(0, LETTER, 91, 0);
        checks.is("90 by 91, rounded down", x.ofThing(0, 4), 0);
        x.rates(0, LETTER, 90, 0);
        checks.is("90 by 90", x.ofThing(0, 4), 1);
        x.rates(0, CARD, 1, 1);
        x.rates(1, PRINT, 1, 1);
        checks.is("rates of other kinds do not matter", x.ofThing(0, 4), 1);
        x.redirect(0, 2);
        checks.is("the target of now has no rate", x.ofThing(0, 4), 0);
        x.mail(PRINT, 0, 1, 1, 5, false);
        checks.is("nothing is short", x.ofThing(1, 4), 0);
        x.rates(0, LETTER, 0, 0);
        checks.is("nothing is short, the origin has no rate", x.ofThing(1, 4), 0);
    }

    /** A tax that is rounded down to 0 is not above 0, so what is refused is delivered. */
    private static void taxRoundedDownToNought() {
        Trial x = Worlds.withLegs(1);
        x.rates(0, LETTER, 3, 0);
        x.rates(1, LETTER, 1, 0);
        x.mail(LETTER, 0, 1, 1, 2, false);
        x.mail(LETTER, 0, 1, 1, 1, false);
        x.refuse(0, true);
        x.refuse(1, true);
        checks.is("2 by 3", x.ofThing(0, 4), 0);
        checks.is("4 by 3", x.ofThing(1, 4), 1);
        checks.is("only the one whose tax is 0 is delivered", x.go(2), 1);
        checkThing(x, "tax of 0", 0, DELIVERED, 1, 0, 1);
        checkThing(x, "tax of 1", 1, TRAVELS, 0, 1, 0);
        checkTills(x, "no tax is paid", 3, 0);
    }

    // ---- a day, step 1: those that travel

    /** "the days left are 1 less; if they are 0 by that, it arrives". */
    private static void travelsForDays() {
        for (int days : new int[] {1, 2, 99, 100}) {
            Trial x = Worlds.row(2, days);
            x.mail(LETTER, 0, 1, 1, 0, true);
            checks.is("no day has gone by", x.ofThing(0, 0), WAITS);
            checks.is("the day on which it sets off", x.go(1), 0);
            checkThing(x, "set off", 0, TRAVELS, 1, days, 1);
            if (days > 1) {
                checks.is("all days but one", x.go(days - 1), 0);
                checkThing(x, "the day before", 0, TRAVELS, 1, 1, 1);
            }
            checks.is("the last day", x.go(1), 1);
            checkThing(x, "arrived", 0, DELIVERED, 1, 0, 1);
            checks.is("days after that", x.go(200), 0);
        }
    }

    /** "if that is its target, as it is then". */
    private static void targetAsItIsThen() {
        Trial x = Worlds.row(3, 1);
        x.mail(LETTER, 0, 1, 1, 0, true);
        x.mail(LETTER, 0, 2, 1, 0, true);
        x.go(1);
        x.redirect(0, 2);
        x.redirect(1, 1);
        checks.is("only the one whose target it is now", x.go(1), 1);
        checkThing(x, "no target any more", 0, TRAVELS, 2, 1, 2);
        checkThing(x, "target by now", 1, DELIVERED, 1, 0, 1);
        checkHands(x, 0, 0, 1);
        checkHands(x, 1, 0, 1);
    }

    /** "if it goes BACK, it is DELIVERED": no tax, no due, and it is not refused once more. */
    private static void backIsDelivered() {
        Trial x = Worlds.withLegs(1);
        x.rates(0, LETTER, 10, 0);
        x.rates(1, LETTER, 10, 0);
        x.due(0, LETTER, 9);
        x.due(1, LETTER, 9);
        x.sample(true);
        x.mail(LETTER, 0, 1, 1, 0, true);
        x.mail(LETTER, 0, 1, 1, 0, false);
        x.refuse(0, true);
        x.refuse(1, true);
        checks.is("turned back, not delivered", x.go(2), 0);
        checkThing(x, "on the very day", 0, TRAVELS, 0, 1, 0);
        checks.is("its tax, told still", x.ofThing(0, 4), 120);
        checks.is("both delivered", x.go(1), 2);
        for (int thing = 0; thing < 2; thing++) {
            checkThing(x, "back", thing, DELIVERED, 0, 0, 0);
            checks.is("it went back", x.ofThing(thing, 5), 1);
        }
        checkHands(x, 0, 0, 1, 0);
        checkAccounts(x, "no due is paid", 0, 0);
        checkTills(x, "no tax is paid", 0, 0);
        checks.is("no due is counted there", x.counted(0, 1), 0);
        checks.is("no due is counted here", x.counted(0, 0), 0);
    }

    /** "if it is told as refused, its tax is above 0, and its target is not its origin": each of the three. */
    private static void refusedOrNot() {
        for (int told = 0; told < 8; told++) {
            boolean isRefused = (told & 1) != 0;
            boolean isTaxed = (told & 2) != 0;
            boolean isElsewhere = (told & 4) != 0;
            Trial x = Worlds.withLegs(1);
            x.rates(0, LETTER, 10, 0);
            x.rates(1, LETTER, 10, 0);
            x.mail(LETTER, 0, 1, 1, isTaxed ? 9 : 10, false);
            x.refuse(0, isRefused);
            x.go(1);
            if (!isElsewhere) {
                x.redirect(0, 0);
            }
            boolean isBack = isRefused && isTaxed && isElsewhere;
            checks.is("case " + told + " is delivered", x.go(isElsewhere ? 1 : 2), isBack ? 0 : 1);
            checks.is("case " + told + " goes back", x.ofThing(0, 5), isBack ? 1 : 0);
            checkTills(x, "case " + told, (isTaxed ? 9 : 10) + (isTaxed && !isElsewhere ? 2 : 0),
                isTaxed && isElsewhere && !isBack ? 2 : 0);
        }
    }

    /** "the tax goes into the till of the target", by the target and the rates of that day. */
    private static void taxIntoTill() {
        Trial x = Worlds.row(3, 1);
        x.rates(0, LETTER, 10, 0);
        x.rates(1, LETTER, 20, 0);
        x.rates(2, LETTER, 35, 0);
        x.mail(LETTER, 0, 1, 1, 9, false);
        x.go(1);
        x.redirect(0, 2);
        checks.is("tax by the new target", x.ofThing(0, 4), 7);
        x.rates(2, LETTER, 45, 0);
        x.go(2);
        x.rates(2, LETTER, 0, 0);
        checkTills(x, "of the new target", 9, 0, 9);
    }

    /** "the due that it tells for the kind, unless it is the origin": at once, or counted, or nothing. */
    private static void dues() {
        Trial x = Worlds.withLegs(1);
        for (int kind = LETTER; kind <= PRINT; kind++) {
            x.due(0, kind, 1000 + kind);
            x.due(1, kind, 1 + 10 * kind);
        }
        for (int kind = LETTER; kind <= PRINT; kind++) {
            x.mail(kind, 0, 1, 1, 0, true);
            checks.is("registered, no day of samples", x.go(2), 1);
        }
        checkAccounts(x, "1, 11 and 21 at once", -33, 33);
        for (int kind = LETTER; kind <= PRINT; kind++) {
            x.mail(kind, 0, 1, 1, 0, false);
            checks.is("not registered, no day of samples", x.go(2), 1);
        }
        checkAccounts(x, "nothing is owed", -33, 33);
        checks.is("nothing is counted", x.counted(0, 1), 0);
        x.sample(true);
        for (int kind = LETTER; kind <= PRINT; kind++) {
            x.mail(kind, 0, 1, 1, 0, false);
            checks.is("not registered, a day of samples", x.go(2), 1);
            checks.is("counted of kinds up to " + kind, x.counted(0, 1), new int[] {1, 12, 33}[kind]);
        }
        x.mail(LETTER, 0, 1, 1, 0, true);
        x.go(2);
        checkAccounts(x, "registered, at once on a day of samples too", -34, 34);
        checks.is("and not counted", x.counted(0, 1), 33);
        x.mail(PRINT, 0, 1, 1, 0, true);
        x.mail(PRINT, 0, 1, 1, 0, false);
        x.go(1);
        x.redirect(10, 0);
        x.redirect(11, 0);
        checks.is("both come back to their origin", x.go(2), 2);
        checkAccounts(x, "the origin is not owed its due", -34, 34);
        checks.is("nor is it counted", x.counted(0, 0), 0);
    }

    /** "a day is one of samples, if that is told; it is not at first": the day of the delivery alone matters. */
    private static void samplesOnTheDay() {
        Trial x = Worlds.row(2, 2);
        x.due(1, LETTER, 5);
        x.mail(LETTER, 0, 1, 1, 0, false);
        x.go(3);
        checks.is("no day of samples at first", x.counted(0, 1), 0);
        x.mail(LETTER, 0, 1, 1, 0, false);
        x.sample(true);
        x.go(2);
        x.sample(false);
        x.go(1);
        checks.is("days of samples on the way only", x.counted(0, 1), 0);
        x.mail(LETTER, 0, 1, 1, 0, false);
        x.go(2);
        x.sample(true);
        x.go(1);
        x.sample(false);
        checks.is("a day of samples for the delivery", x.counted(0, 1), 5);
    }

    // ---- a day, step 2: those that wait

    /** "if its POST does not STRIKE": what arrives there does so, and is delivered, or turns back and waits. */
    private static void strikes() {
        Trial x = Worlds.row(3, 1);
        x.rates(1, LETTER, 1, 0);
        x.mail(LETTER, 0, 1, 1, 0, true);
        x.mail(LETTER, 0, 2, 1, 0, true);
        x.mail(LETTER, 0, 1, 1, 0, true);
        x.refuse(2, true);
        x.go(1);
        x.strike(0, true);
        x.strike(1, true);
        x.strike(2, true);
        checks.is("delivered at a post that strikes", x.go(1), 1);
        checkThing(x, "delivered", 0, DELIVERED, 1, 0, 1);
        checkThing(x, "on its way", 1, WAITS, 1, 0, 2);
        checkThing(x, "turned back", 2, WAITS, 1, 0, 0);
        checks.is("it goes back, and waits", x.ofThing(2, 5), 1);
        checks.is("while it strikes", x.go(200), 0);
        checkThing(x, "on its way, still", 1, WAITS, 1, 0, 2);
        checkThing(x, "turned back, still", 2, WAITS, 1, 0, 0);
        x.strike(1, false);
        checks.is("as it strikes no more", x.go(1), 0);
        checkThing(x, "on its way", 1, TRAVELS, 2, 1, 2);
        checkThing(x, "going back", 2, TRAVELS, 0, 1, 0);
        checks.is("both delivered, at posts that strike", x.go(1), 2);
    }

    /** "and there is a next LEG to its target": as long as there is none, it waits, also if it goes BACK. */
    private static void noNextLeg() {
        Trial x = Worlds.row(3, 1);
        x.rates(2, LETTER, 1, 0);
        x.mail(LETTER, 0, 2, 1, 0, true);
        x.refuse(0, true);
        x.close(1, true);
        checks.is("nothing leads to the target", x.go(200), 0);
        checkThing(x, "it stays, though a leg leads on", 0, WAITS, 0, 0, 2);
        x.close(1, false);
        x.go(2);
        x.close(0, true);
        x.go(1);
        checkThing(x, "nothing leads back", 0, WAITS, 2, 0, 0);
        x.close(0, false);
        x.go(1);
        checkThing(x, "it goes back", 0, TRAVELS, 1, 1, 0);
        checkAccounts(x, "no charge is told", 0, 0, 0);
    }

    /** "the charge of this POST for each 10 grams that are begun is paid". */
    private static void charges() {
        int[] grams = {1, 9, 10, 11, 20, 21, 1990, 1991, 1999, 2000};
        int[] parts = {1, 1, 1, 2, 2, 3, 199, 200, 200, 200};
        for (int i = 0; i < grams.length; i++) {
            Trial x = Worlds.row(3, 1);
            x.charge(0, 1);
            x.charge(1, 1000);
            x.charge(2, 1);
            x.mail(PRINT, 0, 2, grams[i], 0, i % 2 == 0);
            checks.is("delivered", x.go(3), 1);
            checkAccounts(x, grams[i] + " grams", -1000L * parts[i], 1000L * parts[i], 0);
            checkTills(x, grams[i] + " grams", 0, 0, i % 2 == 0 ? 100 : 0);
        }
    }

    /** A charge of the day on which the thing sets off from the post, once, however long it waited. */
    private static void chargeOfThen() {
        Trial x = Worlds.row(3, 1);
        x.charge(1, 7);
        x.mail(LETTER, 0, 2, 10, 0, false);
        x.strike(1, true);
        x.go(20);
        checkAccounts(x, "no charge while it waits", 0, 0, 0);
        x.charge(1, 3);
        x.strike(1, false);
        x.go(1);
        x.charge(1, 1000);
        checkAccounts(x, "the charge of the day", -3, 3, 0);
        x.go(5);
        checkAccounts(x, "no other charge", -3, 3, 0);
    }

    /** "also if it goes BACK, and also by a POST that was its target". */
    private static void chargesBack() {
        Trial x = Worlds.row(4, 1);
        x.rates(2, LETTER, 1, 0);
        int[] cents = {1, 16, 256, 512};
        for (int post = 0; post < 4; post++) {
            x.charge(post, cents[post]);
        }
        x.mail(LETTER, 0, 2, 11, 0, true);
        x.refuse(0, true);
        x.go(2);
        checkAccounts(x, "on the way", -32, 32, 0, 0);
        x.go(1);
        checkAccounts(x, "by the target that refused it", -544, 32, 512, 0);
        x.go(1);
        checkAccounts(x, "on the way back", -576, 64, 512, 0);
        checks.is("delivered at its origin", x.go(1), 1);
        checkAccounts(x, "not by its origin", -576, 64, 512, 0);
        x.mail(LETTER, 0, 2, 11, 0, true);
        x.go(2);
        x.redirect(1, 3);
        x.go(2);
        checkAccounts(x, "by the post that was its target", -1120, 96, 1024, 0);
    }

    /** "if its POST is not its origin": also as it comes by its origin again. */
    private static void noChargeAtTheOrigin() {
        Trial x = Worlds.row(3, 1);
        for (int post = 0; post < 3; post++) {
            x.charge(post, 5);
        }
        x.mail(LETTER, 1, 2, 1, 0, true);
        x.go(1);
        x.redirect(0, 0);
        x.go(2);
        checkThing(x, "at its origin again", 0, TRAVELS, 0, 1, 0);
        checkHands(x, 0, 1, 2, 1);
        checkAccounts(x, "charged by post 2 alone", 0, -5, 5);
    }

    /** "A LEG that is closed lets those that TRAVEL on it arrive all the same." */
    private static void closedWhileItTravels() {
        Trial x = Worlds.row(3, 5);
        x.rates(1, LETTER, 1, 0);
        x.mail(LETTER, 0, 1, 1, 0, true);
        x.mail(LETTER, 0, 2, 1, 0, true);
        x.mail(LETTER, 0, 1, 1, 0, true);
        x.refuse(2, true);
        x.go(1);
        x.mail(LETTER, 0, 1, 1, 0, true);
        x.close(0, true);
        checks.is("they travel on", x.go(4), 0);
        checks.is("and arrive", x.go(1), 1);
        checkThing(x, "delivered", 0, DELIVERED, 1, 0, 1);
        checkThing(x, "goes on", 1, TRAVELS, 2, 5, 2);
        checkThing(x, "cannot go back", 2, WAITS, 1, 0, 0);
        checkThing(x, "did not set off", 3, WAITS, 0, 0, 1);
    }

    /** "A THING may be redirected, as long as it WAITS or TRAVELS ..; a redirection does not change that." */
    private static void redirectedAndRefused() {
        Trial x = Worlds.row(4, 1);
        x.rates(2, LETTER, 1, 0);
        x.rates(3, LETTER, 1, 0);
        x.mail(LETTER, 0, 2, 1, 0, true);
        checks.is("refused as it waits", x.refuse(0, true), false);
        checks.is("redirected as it waits", x.redirect(0, 1), 2);
        x.go(1);
        checks.is("still refused as it travels", x.refuse(0, true), true);
        checks.is("redirected as it travels", x.redirect(0, 3), 1);
        checks.is("redirected to where it was to go", x.redirect(0, 3), 3);
        x.strike(1, true);
        x.go(1);
        checks.is("still refused on the way", x.refuse(0, false), true);
        checks.is("redirected as it waits on the way", x.redirect(0, 2), 3);
        checks.is("not refused, still", x.refuse(0, true), false);
        checks.is("redirected once more", x.redirect(0, 3), 2);
        x.strike(1, false);
        checks.is("refused at its last target", x.go(3), 0);
        checks.is("so it goes back", x.ofThing(0, 5), 1);
        checkThing(x, "back", 0, TRAVELS, 2, 1, 0);
    }

    // ---- samples, claims, coupons

    /** "for each two POSTS, from the account of the origin to that of the target, what was counted, times the factor". */
    private static void settles() {
        for (int factor : new int[] {1, 2, 1000}) {
            Trial x = Worlds.row(3, 1);
            x.sample(true);
            x.due(0, LETTER, 1);
            x.due(1, LETTER, 10);
            x.due(2, LETTER, 100);
            for (int from = 0; from < 3; from++) {
                for (int to = 0; to < 3; to++) {
                    if (from != to) {
                        x.mail(LETTER, from, to, 1, 0, false);
                    }
                }
            }
            checks.is("six are delivered", x.go(3), 6);
            checks.is("what is paid, together", x.settle(factor), 222L * factor);
            checkAccounts(x, "by " + factor, (2 - 110) * factor, (20 - 101) * factor, (200 - 11) * factor);
            for (int from = 0; from < 3; from++) {
                for (int to = 0; to < 3; to++) {
                    checks.is("nothing is counted any more", x.counted(from, to), 0);
                }
            }
            checks.is("nothing is paid any more", x.settle(factor), 0);
            checks.is("samples go on", x.sample(true), true);
        }
    }

    /** "nothing from the origin itself, so nothing at all if it WAITED there"; the till pays 4000 all the same. */
    private static void claims() {
        Trial x = Worlds.row(4, 1);
        x.strike(3, true);
        x.mail(LETTER, 1, 3, 1, 0, true);
        x.lose(0);
        checks.is("waited at its origin", x.claim(0), 0);
        checkAccounts(x, "nothing", 0, 0, 0, 0);
        x.mail(LETTER, 1, 3, 1, 0, true);
        x.mail(LETTER, 1, 0, 1, 0, true);
        x.go(1);
        x.lose(1);
        checks.is("travelled, its origin being the leg's first", x.claim(1), 2000);
        checkAccounts(x, "2000 by post 2", 0, 2000, -2000, 0);
        x.lose(2);
        checks.is("travelled, its origin being the leg's other", x.claim(2), 2000);
        checkAccounts(x, "2000 by post 0", -2000, 4000, -2000, 0);
        x.mail(LETTER, 1, 3, 1, 0, true);
        x.go(2);
        x.lose(3);
        checks.is("travelled between two others", x.claim(3), 4000);
        checkAccounts(x, "2000 each", -2000, 8000, -4000, -2000);
        x.mail(LETTER, 1, 3, 1, 0, true);
        x.strike(2, true);
        x.go(2);
        x.lose(4);
        checks.is("waited at another one", x.claim(4), 4000);
        checkAccounts(x, "4000 by post 2", -2000, 12000, -8000, -2000);
        checkTills(x, "4000 for each", 0, -20000, 0, 0);
        for (int thing = 0; thing < 5; thing++) {
            int one = thing;
            checks.isBadState("claimed for once", x, () -> x.claim(one));
        }
    }

    /** What goes BACK can be lost and claimed for like any other; also at the post that was its target. */
    private static void claimsOnTheWayBack() {
        Trial x = Worlds.row(3, 1);
        x.rates(2, LETTER, 1, 0);
        for (int thing = 0; thing < 3; thing++) {
            x.mail(LETTER, 0, 2, 1, 0, true);
            x.refuse(thing, true);
        }
        x.strike(2, true);
        x.go(3);
        checks.is("lost as it waits to go back", x.lose(0), 2);
        checkThing(x, "lost", 0, LOST, 2, 0, 0);
        checks.is("it went back", x.ofThing(0, 5), 1);
        checks.is("claim", x.claim(0), 4000);
        checkAccounts(x, "by the post that was its target", 4000, 0, -4000);
        x.strike(2, false);
        x.go(1);
        checks.is("lost as it travels back", x.lose(1), 2);
        checkThing(x, "lost", 1, LOST, 1, 0, 0);
        checks.is("claim", x.claim(1), 4000);
        checkAccounts(x, "by both posts of its leg", 8000, -2000, -6000);
        x.go(1);
        checks.is("lost as it travels home", x.lose(2), 1);
        checkThing(x, "lost", 2, LOST, 0, 0, 0);
        checks.is("claim", x.claim(2), 2000);
        checkAccounts(x, "by the other post of its leg", 10000, -4000, -6000);
        checkTills(x, "4000 for each", -12000, 0, 0);
    }

    /** "sold at a POST, if its price there is above 0"; "if no gain is above 0"; "of several the lowest number". */
    private static void coupons() {
        Trial x = Worlds.withPosts(3);
        x.rates(0, LETTER, 50, 10000);
        x.rates(1, CARD, 10000, 10000);
        checkGain(x, "nowhere sold", NONE, NONE, NONE);
        x.coupon(0, 1);
        checkGain(x, "not at any other post", NONE, NONE, NONE);
        x.coupon(2, 51);
        checkGain(x, "a loss", NONE, NONE, NONE);
        x.coupon(2, 50);
        checkGain(x, "neither", NONE, NONE, NONE);
        x.coupon(2, 49);
        checkGain(x, "a gain of 1", 1, 2, 0);
        x.coupon(1, 49);
        checkGain(x, "of two, the lowest where it is sold", 1, 1, 0);
        x.coupon(1, 0);
        checkGain(x, "sold there no more", 1, 2, 0);
        x.rates(1, LETTER, 50, 0);
        x.coupon(0, 49);
        checkGain(x, "of two where it is sold", 1, 0, 1);
        x.coupon(0, 0);
        checkGain(x, "of two others, the lowest", 1, 2, 0);
        x.rates(1, LETTER, 51, 0);
        checkGain(x, "the greatest", 2, 2, 1);
        x.coupon(2, 0);
        checkGain(x, "nowhere sold any more", NONE, NONE, NONE);
    }

    private static void checkGain(Trial x, String what, int gain, int sold, int other) {
        checks.is("gain(0): " + what, x.gain(0), gain);
        checks.is("gain(1): " + what, x.gain(1), sold);
        checks.is("gain(2): " + what, x.gain(2), other);
    }
}
