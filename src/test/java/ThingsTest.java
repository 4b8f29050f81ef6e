/** Promises 13 to 15, 17, 18, 22 and 23: things, one by one. */
public final class ThingsTest {
    private static final int LETTER = Postunion.LETTER, CARD = Postunion.CARD, PRINT = Postunion.PRINT;
    private static final int NONE = Postunion.NONE;
    private static final Checks checks = new Checks("ThingsTest");

    public static void main(String[] args) {
        promise13Mail();
        promise14Redirect();
        promise15Refuse();
        promise17Lose();
        promise18Claim();
        promise22OfThing();
        promise22Tax();
        promise23Hand();
        promise23ManyHands();
        checks.end();
    }

    private static void promise13Mail() {
        Trial x = Worlds.row(2, 1);
        x.rates(0, LETTER, 100, 10);
        checks.isNoSuch("mail from post 2, all wrong", x, () -> x.mail(3, 2, 2, 0, -1, true));
        checks.isNoSuch("mail from post -1", x, () -> x.mail(LETTER, -1, 0, 1, 0, true));
        checks.isNoSuch("mail to post 2", x, () -> x.mail(LETTER, 0, 2, 1, 0, true));
        checks.isBadArgument("mail to the same", x, () -> x.mail(LETTER, 0, 0, 1, 0, true));
        checks.isBadArgument("kind -1", x, () -> x.mail(-1, 0, 1, 1, 0, true));
        checks.isBadArgument("kind 3", x, () -> x.mail(3, 0, 1, 1, 0, true));
        checks.isBadArgument("0 grams", x, () -> x.mail(LETTER, 0, 1, 0, 0, true));
        checks.isBadArgument("2001 grams", x, () -> x.mail(PRINT, 0, 1, 2001, 0, true));
        checks.isBadArgument("a card of 21 grams", x, () -> x.mail(CARD, 0, 1, 21, 0, true));
        checks.isBadArgument("a card of 0 grams", x, () -> x.mail(CARD, 0, 1, 0, 0, true));
        checks.isBadArgument("paid -1", x, () -> x.mail(LETTER, 0, 1, 1, -1, true));
        checks.isBadArgument("paid 100001", x, () -> x.mail(LETTER, 0, 1, 1, 100001, true));
        checks.is("mail", x.mail(LETTER, 0, 1, 21, 109, false), 0);
        checks.is("it waits", x.ofThing(0, 0), Postunion.WAITS);
        checks.is("at the origin", x.ofThing(0, 1), 0);
        checks.is("to the target", x.ofThing(0, 3), 1);
        checks.is("till", x.till(0), 109);
        checks.is("short by 1, no rate at the target", x.ofThing(0, 4), 0);
        x.rates(1, LETTER, 100, 0);
        checks.is("short by 1", x.ofThing(0, 4), 2);
        checks.is("more is paid", x.mail(LETTER, 0, 1, 21, 111, false), 1);
        checks.is("nothing is short", x.ofThing(1, 4), 0);
        x.rates(0, LETTER, 200, 10);
        checks.is("what was short is kept", x.ofThing(0, 4), 1);
        checks.is("what was not short is kept", x.ofThing(1, 4), 0);
        checks.is("2000 grams", x.mail(PRINT, 1, 0, 2000, 100000, true), 2);
        checks.is("a card of 20 grams", x.mail(CARD, 1, 0, 20, 0, true), 3);
        checks.is("short by 50, at half the rate", x.ofThing(3, 4), 200);
        for (int number = 4; number < 40; number++) {
            checks.is("mail", x.mail(LETTER, 0, 1, 1, 1, false), number);
        }
        checks.isBadState("thing 40", x, () -> x.mail(LETTER, 0, 1, 1, 1, false));
        checks.isBadArgument("thing 40 of 0 grams", x, () -> x.mail(LETTER, 0, 1, 0, 1, false));
        checks.isBadArgument("thing 40 to the same", x, () -> x.mail(LETTER, 1, 1, 1, 1, false));
        checks.isNoSuch("thing 40 to post 2", x, () -> x.mail(LETTER, 1, 2, 1, 1, false));
    }

    private static void promise14Redirect() {
        Trial x = Worlds.row(3, 2);
        x.mail(LETTER, 0, 1, 1, 0, false);
        checks.isNoSuch("redirect thing 1", x, () -> x.redirect(1, 2));
        checks.isNoSuch("redirect thing -1", x, () -> x.redirect(-1, 2));
        checks.isNoSuch("redirect to post 3", x, () -> x.redirect(0, 3));
        checks.isNoSuch("redirect to post -1", x, () -> x.redirect(0, -1));
        checks.isBadArgument("redirect to where it waits", x, () -> x.redirect(0, 0));
        checks.is("redirect", x.redirect(0, 2), 1);
        checks.is("redirect to the same target", x.redirect(0, 2), 2);
        checks.is("the target", x.ofThing(0, 3), 2);
        x.go(1);
        checks.is("redirect what travels to its origin", x.redirect(0, 0), 2);
        checks.is("where it travels does not change", x.ofThing(0, 1), 1);
        checks.is("the days left do not change", x.ofThing(0, 2), 2);
        checks.is("redirect what travels to where it goes", x.redirect(0, 1), 0);
        checks.is("redirect again", x.redirect(0, 0), 1);
        checks.is("passes and comes back", x.go(4), 1);
        checks.is("delivered at its origin", x.ofThing(0, 1), 0);
        checks.isBadState("redirect what is delivered", x, () -> x.redirect(0, 2));
        checks.isBadState("redirect what is delivered to where it is", x, () -> x.redirect(0, 0));
        checks.isNoSuch("redirect what is delivered to post 3", x, () -> x.redirect(0, 3));
        x.mail(LETTER, 1, 0, 1, 0, false);
        x.lose(1);
        checks.isBadState("redirect what is lost", x, () -> x.redirect(1, 2));
        checks.isBadState("redirect what is lost to where it is", x, () -> x.redirect(1, 1));
        redirectBack();
    }

    private static void redirectBack() {
        Trial x = Worlds.row(3, 1);
        x.mail(LETTER, 0, 1, 1, 0, true);
        x.rates(1, LETTER, 1, 0);
        x.refuse(0, true);
        x.strike(1, true);
        x.go(2);
        checks.is("it goes back", x.ofThing(0, 5), 1);
        checks.isBadState("redirect what waits to go back", x, () -> x.redirect(0, 2));
        checks.isBadState("redirect what goes back to its origin", x, () -> x.redirect(0, 0));
        checks.isBadArgument("redirect what waits to go back to where it is", x, () -> x.redirect(0, 1));
        x.strike(1, false);
        x.go(1);
        checks.isBadState("redirect what travels back", x, () -> x.redirect(0, 2));
        checks.isBadState("redirect what travels back to where it was", x, () -> x.redirect(0, 1));
    }

    private static void promise15Refuse() {
        Trial x = Worlds.row(3, 1);
        x.mail(LETTER, 0, 2, 1, 0, true);
        checks.isNoSuch("refuse thing 1", x, () -> x.refuse(1, true));
        checks.isNoSuch("refuse thing -1", x, () -> x.refuse(-1, true));
        checks.is("refused at first", x.refuse(0, false), false);
        checks.is("refuse", x.refuse(0, true), false);
        checks.is("refuse again", x.refuse(0, true), true);
        x.redirect(0, 1);
        checks.is("a redirection does not change that", x.refuse(0, true), true);
        x.go(1);
        checks.is("not refused any more", x.refuse(0, false), true);
        checks.is("refused what travels", x.refuse(0, true), false);
        checks.is("turned back", x.go(1), 0);
        checks.is("back", x.ofThing(0, 5), 1);
        checks.isBadState("refuse what goes back", x, () -> x.refuse(0, false));
        checks.is("delivered at the origin", x.go(1), 1);
        checks.isBadState("refuse what is delivered", x, () -> x.refuse(0, true));
        x.mail(LETTER, 0, 2, 1, 0, true);
        x.refuse(1, true);
        x.refuse(1, false);
        checks.is("what is not refused any more", x.go(3), 1);
        checks.is("is delivered at its target", x.ofThing(1, 1), 2);
        x.mail(LETTER, 0, 2, 1, 0, true);
        x.lose(2);
        checks.isBadState("refuse what is lost", x, () -> x.refuse(2, true));
    }

    private static void promise17Lose() {
        Trial x = Worlds.row(3, 2);
        x.mail(LETTER, 0, 2, 1, 0, true);
        x.mail(LETTER, 0, 2, 1, 0, false);
        x.mail(LETTER, 1, 2, 1, 0, true);
        checks.isNoSuch("lose thing 3", x, () -> x.lose(3));
        checks.isNoSuch("lose thing -1", x, () -> x.lose(-1));
        checks.is("lose what waits at its origin", x.lose(2), 1);
        checks.is("it is lost", x.ofThing(2, 0), Postunion.LOST);
        checks.is("where it was", x.ofThing(2, 1), 1);
        checks.isBadState("lose what is lost", x, () -> x.lose(2));
        x.go(4);
        checks.is("lose what is not registered", x.lose(1), NONE);
        checks.is("lose what travels", x.lose(0), 1);
        checks.is("where it went", x.ofThing(0, 1), 2);
        checks.is("no days left", x.ofThing(0, 2), 0);
        checks.is("what is lost moves no more", x.go(10), 0);
        checks.is("it stays lost", x.ofThing(0, 0), Postunion.LOST);
        x.mail(LETTER, 0, 1, 1, 0, true);
        x.go(3);
        checks.isBadState("lose what is delivered", x, () -> x.lose(3));
        x.mail(LETTER, 0, 1, 1, 0, true);
        x.rates(1, LETTER, 1, 0);
        x.refuse(4, true);
        x.go(4);
        checks.is("it goes back", x.ofThing(4, 5), 1);
        checks.is("lose what goes back", x.lose(4), 1);
    }

    private static void promise18Claim() {
        Trial x = Worlds.row(4, 1);
        x.mail(LETTER, 0, 3, 1, 0, true);
        checks.isNoSuch("claim for thing 1", x, () -> x.claim(1));
        checks.isNoSuch("claim for thing -1", x, () -> x.claim(-1));
        checks.isBadState("claim for what waits", x, () -> x.claim(0));
        x.lose(0);
        checkClaim(x, "waited at its origin", 0, 0);
        checkMoney(x, -4000, 0, 0, 0, 0);
        checks.isBadState("claim again", x, () -> x.claim(0));
        x.mail(LETTER, 0, 3, 1, 0, true);
        x.go(1);
        checks.isBadState("claim for what travels", x, () -> x.claim(1));
        x.lose(1);
        checkClaim(x, "travelled from its origin", 1, 2000);
        checkMoney(x, -8000, 2000, -2000, 0, 0);
        x.mail(LETTER, 0, 3, 1, 0, true);
        x.go(2);
        x.lose(2);
        checkClaim(x, "travelled between others", 2, 4000);
        checkMoney(x, -12000, 6000, -4000, -2000, 0);
        x.mail(LETTER, 0, 3, 1, 0, true);
        x.strike(2, true);
        x.go(5);
        x.lose(3);
        checkClaim(x, "waited at another post", 3, 4000);
        checkMoney(x, -16000, 10000, -4000, -6000, 0);
        x.mail(LETTER, 0, 1, 1, 50, true);
        x.go(2);
        checks.isBadState("claim for what is delivered", x, () -> x.claim(4));
        x.mail(LETTER, 0, 1, 1, 0, false);
        x.lose(5);
        checks.isBadState("claim for what is not registered", x, () -> x.claim(5));
        checkMoney(x, -15950, 10000, -4000, -6000, 0);
    }

    private static void checkClaim(Trial x, String what, int thing, int want) {
        checks.is("claim for what " + what, x.claim(thing), want);
    }

    private static void checkMoney(Trial x, long till, long... accounts) {
        checks.is("till of the origin", x.till(0), till);
        for (int post = 0; post < accounts.length; post++) {
            checks.is("account of " + post, x.account(post), accounts[post]);
        }
        checks.is("till of another", x.till(1), 0);
    }

    private static void checkThing(Trial x, int thing, long... wants) {
        for (int what = 0; what < wants.length; what++) {
            checks.is("ofThing(" + thing + ", " + what + ")", x.ofThing(thing, what), wants[what]);
        }
    }

    private static void promise22OfThing() {
        Trial x = Worlds.row(3, 2);
        x.rates(2, LETTER, 30, 0);
        x.mail(LETTER, 0, 2, 1, 0, true);
        checkThing(x, 0, Postunion.WAITS, 0, 0, 2, 100, 0, 1);
        x.go(1);
        checkThing(x, 0, Postunion.TRAVELS, 1, 2, 2, 100, 0, 1);
        x.go(1);
        checkThing(x, 0, Postunion.TRAVELS, 1, 1, 2, 100, 0, 1);
        x.go(1);
        checkThing(x, 0, Postunion.TRAVELS, 2, 2, 2, 100, 0, 2);
        x.refuse(0, true);
        x.go(2);
        checkThing(x, 0, Postunion.TRAVELS, 1, 2, 0, 100, 1, 3);
        x.go(4);
        checkThing(x, 0, Postunion.DELIVERED, 0, 0, 0, 100, 1, 5);
        x.mail(LETTER, 0, 2, 1, 0, false);
        x.go(5);
        checkThing(x, 1, Postunion.DELIVERED, 2, 0, 2, 0, 0, 0);
        checks.isNoSuch("ofThing(2, 0)", x, () -> x.ofThing(2, 0));
        checks.isNoSuch("ofThing(2, 7)", x, () -> x.ofThing(2, 7));
        checks.isNoSuch("ofThing(-1, 0)", x, () -> x.ofThing(-1, 0));
        checks.isBadArgument("ofThing(0, 7)", x, () -> x.ofThing(0, 7));
        checks.isBadArgument("ofThing(0, -1)", x, () -> x.ofThing(0, -1));
    }

    private static void promise22Tax() {
        Trial x = Worlds.row(3, 1);
        x.rates(0, LETTER, 7, 0);
        x.rates(0, PRINT, 5, 0);
        x.rates(1, LETTER, 10, 0);
        x.rates(1, PRINT, 1000, 0);
        x.mail(PRINT, 0, 1, 1, 0, false);
        checks.is("10 times 10 by 7, rounded down", x.ofThing(0, 4), 14);
        x.rates(1, LETTER, 11, 0);
        checks.is("by the rates of now", x.ofThing(0, 4), 15);
        x.redirect(0, 2);
        checks.is("by the target of now, which has none", x.ofThing(0, 4), 0);
        x.rates(0, LETTER, 0, 0);
        checks.is("twice what is short", x.ofThing(0, 4), 10);
        x.rates(0, PRINT, 10000, 10000);
        x.mail(PRINT, 0, 1, 2000, 0, true);
        checks.is("twice the most", x.ofThing(1, 4), 2000100);
        x.rates(0, LETTER, 1, 0);
        x.rates(1, LETTER, 10000, 0);
        checks.is("ten thousand times twice the most", x.ofThing(1, 4), 20001000000L);
        x.go(2);
        checks.is("into the till of the target", x.till(1), 20001000000L);
        checks.is("of what is delivered, by the rates of now", x.ofThing(1, 4), 20001000000L);
        x.rates(1, LETTER, 1, 0);
        checks.is("of what is delivered, by other rates", x.ofThing(1, 4), 2000100);
    }

    private static void promise23Hand() {
        Trial x = Worlds.row(3, 1);
        x.mail(LETTER, 0, 2, 1, 0, true);
        x.mail(LETTER, 0, 2, 1, 0, false);
        checks.is("the first hand", x.hand(0, 0), 0);
        checks.isNoSuch("a second hand", x, () -> x.hand(0, 1));
        checks.isNoSuch("hand -1", x, () -> x.hand(0, -1));
        checks.isNoSuch("a hand of one that is not registered", x, () -> x.hand(1, 0));
        checks.isNoSuch("a hand of thing 2", x, () -> x.hand(2, 0));
        checks.isNoSuch("a hand of thing -1", x, () -> x.hand(-1, 0));
        x.go(3);
        checks.is("the second hand", x.hand(0, 1), 1);
        checks.is("the third hand", x.hand(0, 2), 2);
        checks.isNoSuch("a fourth hand", x, () -> x.hand(0, 3));
        checks.isNoSuch("hands of one that is not registered", x, () -> x.hand(1, 0));
    }

    /** A thing is sent to and fro between two posts, as it is redirected ahead of each arrival. */
    private static void promise23ManyHands() {
        Trial x = Worlds.row(3, 1);
        x.mail(LETTER, 0, 2, 1, 0, true);
        x.go(1);
        for (int arrival = 1; arrival <= 200; arrival++) {
            x.redirect(0, arrival % 2 == 1 ? 0 : 2);
            x.go(1);
        }
        checks.is("many hands", x.ofThing(0, 6), 201);
        for (int place : new int[] {0, 7, 8, 9, 15, 16, 127, 128, 199, 200}) {
            checks.is("hand " + place, x.hand(0, place), place % 2);
        }
        checks.isNoSuch("hand 201", x, () -> x.hand(0, 201));
        checks.is("the latest hand", x.lose(0), 0);
    }
}
