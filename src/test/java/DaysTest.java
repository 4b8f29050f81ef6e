/** Promises 16, 19, 20 and 26: days, samples and settling. */
public final class DaysTest {
    private static final int LETTER = Postunion.LETTER, CARD = Postunion.CARD, PRINT = Postunion.PRINT;
    private static final Checks checks = new Checks("DaysTest");

    public static void main(String[] args) {
        promise16Range();
        promise16Counts();
        promise16Charges();
        promise16Refused();
        promise16NotBack();
        promise16Dues();
        promise16Redirected();
        promise16Waiting();
        promise19Sample();
        promise20Settle();
        promise26Counted();
        checks.end();
    }

    private static void checkAccounts(Trial x, String what, long... wants) {
        for (int post = 0; post < wants.length; post++) {
            checks.is("account of " + post + ": " + what, x.account(post), wants[post]);
        }
    }

    private static void checkTills(Trial x, String what, long... wants) {
        for (int post = 0; post < wants.length; post++) {
            checks.is("till of " + post + ": " + what, x.till(post), wants[post]);
        }
    }

    private static void promise16Range() {
        Trial x = Worlds.row(2, 1);
        x.mail(LETTER, 0, 1, 1, 0, true);
        for (int wrong : new int[] {0, -1, 201, Integer.MIN_VALUE, Integer.MAX_VALUE}) {
            checks.isBadArgument("go(" + wrong + ")", x, () -> x.go(wrong));
        }
        checks.is("go(200)", x.go(200), 1);
        checks.is("go(1)", x.go(1), 0);
    }

    private static void promise16Counts() {
        Trial x = Worlds.row(3, 1);
        x.leg(0, 2, 100);
        x.close(1, true);
        x.mail(LETTER, 0, 2, 1, 0, false);
        x.mail(LETTER, 0, 1, 1, 0, false);
        x.mail(LETTER, 1, 0, 1, 0, false);
        checks.is("it sets off on the first day", x.go(1), 0);
        checks.is("those of a day", x.go(1), 2);
        checks.is("the one of 100 days, but for a day", x.go(98), 0);
        checks.is("it travels", x.ofThing(0, 0), Postunion.TRAVELS);
        checks.is("a day is left", x.ofThing(0, 2), 1);
        checks.is("the last day", x.go(1), 1);
    }

    private static void promise16Charges() {
        Trial x = Worlds.row(4, 1);
        for (int post = 0; post < 4; post++) {
            x.charge(post, 1 + post);
        }
        x.mail(PRINT, 0, 3, 10, 0, false);
        checks.is("no charge of the origin", x.go(1), 0);
        checkAccounts(x, "as it set off", 0, 0, 0, 0);
        x.go(1);
        checkAccounts(x, "10 grams", -2, 2, 0, 0);
        x.go(2);
        checkAccounts(x, "no charge of the target", -5, 2, 3, 0);
        x.mail(PRINT, 0, 2, 11, 0, false);
        x.go(3);
        checkAccounts(x, "11 grams", -9, 6, 3, 0);
        x.mail(PRINT, 0, 2, 2000, 0, true);
        x.go(3);
        checkAccounts(x, "2000 grams", -409, 406, 3, 0);
        checkTills(x, "of charges", 0, 0, 100, 0);
    }

    private static void promise16Refused() {
        Trial x = Worlds.row(3, 1);
        x.rates(0, LETTER, 10, 0);
        x.rates(2, LETTER, 20, 0);
        x.due(2, LETTER, 7);
        x.due(0, LETTER, 7);
        x.charge(0, 1000);
        x.charge(1, 5);
        x.charge(2, 3);
        x.sample(true);
        x.mail(LETTER, 0, 2, 25, 4, true);
        x.mail(LETTER, 0, 2, 25, 4, false);
        x.refuse(0, true);
        x.refuse(1, true);
        checks.is("both turn back", x.go(3), 0);
        checkAccounts(x, "charged also by the post that was the target", -48, 30, 18);
        checkTills(x, "no tax is paid", 8, 0, 0);
        checks.is("travels on the day that it turned", x.ofThing(0, 0), Postunion.TRAVELS);
        checks.is("to the post before", x.ofThing(0, 1), 1);
        checks.is("its target is its origin", x.ofThing(0, 3), 0);
        checks.is("it goes back", x.ofThing(0, 5), 1);
        checks.is("back at the origin", x.go(2), 2);
        checkAccounts(x, "charged on the way back", -78, 60, 18);
        checkTills(x, "no tax is paid back", 8, 0, 0);
        checks.is("no due is counted", x.counted(0, 2), 0);
        checks.is("no due is counted for the origin", x.counted(0, 0), 0);
        checks.is("hands there and back", x.ofThing(0, 6), 5);
        checks.is("it went back", x.ofThing(0, 5), 1);
    }

    private static void promise16NotBack() {
        Trial x = Worlds.row(3, 1);
        x.rates(0, LETTER, 10, 0);
        x.rates(1, LETTER, 20, 0);
        x.mail(LETTER, 0, 1, 20, 10, false);
        x.refuse(0, true);
        checks.is("refused, but the tax is 0", x.go(2), 1);
        checks.is("it did not go back", x.ofThing(0, 5), 0);
        x.mail(LETTER, 0, 2, 20, 0, false);
        x.refuse(1, true);
        checks.is("refused, but the target asks nothing", x.go(3), 1);
        checks.is("where", x.ofThing(1, 1), 2);
        x.mail(LETTER, 0, 2, 20, 0, false);
        x.refuse(2, true);
        x.go(1);
        x.redirect(2, 0);
        checks.is("refused, but its target is its origin", x.go(2), 1);
        checks.is("it went not back", x.ofThing(2, 5), 0);
        checkTills(x, "the tax is paid at the origin", 30, 0, 0);
        x.mail(LETTER, 0, 1, 20, 0, false);
        x.refuse(3, true);
        x.go(1);
        x.rates(1, LETTER, 0, 0);
        checks.is("the tax is that of the day", x.go(1), 1);
        x.rates(1, LETTER, 5, 0);
        x.mail(LETTER, 0, 1, 20, 9, false);
        x.refuse(4, true);
        checks.is("a tax of 1 is refused", x.go(2), 0);
        checks.is("it goes back", x.ofThing(4, 5), 1);
    }

    private static void promise16Dues() {
        Trial x = Worlds.row(3, 1);
        x.due(1, LETTER, 6);
        x.due(1, CARD, 60);
        x.due(1, PRINT, 600);
        x.mail(LETTER, 0, 1, 1, 0, true);
        x.mail(CARD, 2, 1, 1, 0, true);
        x.mail(PRINT, 2, 1, 1, 0, false);
        checks.is("three are delivered", x.go(2), 3);
        checkAccounts(x, "registered ones pay at once", -6, 66, -60);
        checks.is("no day of samples", x.counted(2, 1), 0);
        x.sample(true);
        x.mail(LETTER, 0, 1, 1, 0, true);
        x.mail(LETTER, 0, 1, 1, 0, false);
        x.mail(PRINT, 0, 1, 1, 0, false);
        x.mail(PRINT, 2, 1, 1, 0, false);
        x.go(2);
        checkAccounts(x, "samples pay nothing yet", -12, 72, -60);
        checks.is("counted, of two kinds, none registered", x.counted(0, 1), 606);
        checks.is("counted, of another origin", x.counted(2, 1), 600);
        checks.is("not the other way", x.counted(1, 0), 0);
    }

    private static void promise16Redirected() {
        Trial x = Worlds.row(3, 1);
        x.rates(0, LETTER, 10, 0);
        x.rates(1, LETTER, 10, 0);
        x.rates(2, LETTER, 30, 0);
        x.due(0, LETTER, 9);
        x.due(2, LETTER, 4);
        x.charge(1, 2);
        x.mail(LETTER, 0, 1, 1, 0, true);
        x.mail(LETTER, 0, 1, 1, 0, true);
        x.go(1);
        x.redirect(0, 2);
        x.redirect(1, 0);
        checks.is("both pass the target that was", x.go(2), 2);
        checkAccounts(x, "dues of the target, none of the origin", -8, 4, 4);
        checkTills(x, "taxes by the target that is, at the origin too", 120, 0, 360);
    }

    private static void promise16Waiting() {
        Trial x = Worlds.row(3, 1);
        x.charge(1, 2);
        x.mail(LETTER, 0, 2, 1, 0, true);
        x.close(1, true);
        checks.is("nothing leads there", x.go(5), 0);
        checks.is("it waits at its origin", x.ofThing(0, 1), 0);
        x.close(1, false);
        x.go(1);
        x.close(1, true);
        x.go(5);
        checks.is("it waits on the way", x.ofThing(0, 0), Postunion.WAITS);
        checks.is("there", x.ofThing(0, 1), 1);
        checks.is("no charge for waiting", x.account(1), 0);
        x.close(1, false);
        x.strike(1, true);
        x.go(5);
        checks.is("no charge in a strike", x.account(1), 0);
        checks.is("one hand for an arrival", x.ofThing(0, 6), 2);
        x.strike(1, false);
        x.go(1);
        checks.is("a charge as it goes on", x.account(1), 2);
        checks.is("delivered at last", x.go(1), 1);
    }

    private static void promise19Sample() {
        Trial x = Worlds.row(2, 1);
        x.due(1, LETTER, 5);
        checks.is("sample at first", x.sample(true), false);
        checks.is("sample again", x.sample(true), true);
        x.mail(LETTER, 0, 1, 1, 0, false);
        x.go(1);
        checks.is("no samples any more", x.sample(false), true);
        x.go(1);
        checks.is("the day of the delivery counts", x.counted(0, 1), 0);
        checks.is("no samples again", x.sample(false), false);
        x.mail(LETTER, 0, 1, 1, 0, false);
        x.go(1);
        x.sample(true);
        x.go(1);
        checks.is("counted on a day of samples", x.counted(0, 1), 5);
    }

    private static void promise20Settle() {
        Trial x = Worlds.row(3, 1);
        x.sample(true);
        x.due(0, LETTER, 1);
        x.due(1, LETTER, 10);
        x.due(2, LETTER, 10000);
        x.mail(LETTER, 0, 1, 1, 0, false);
        x.mail(LETTER, 1, 0, 1, 0, false);
        x.mail(LETTER, 1, 0, 1, 0, false);
        x.mail(LETTER, 0, 2, 1, 0, false);
        x.go(3);
        for (int wrong : new int[] {0, -1, 1001, Integer.MIN_VALUE, Integer.MAX_VALUE}) {
            checks.isBadArgument("settle(" + wrong + ")", x, () -> x.settle(wrong));
        }
        checkAccounts(x, "before it is settled", 0, 0, 0);
        checks.is("settle", x.settle(1000), 10012000);
        checkAccounts(x, "settled", 2000 - 10010000, 10000 - 2000, 10000000);
        checks.is("nothing is counted any more", x.counted(0, 2), 0);
        checks.is("settle nothing", x.settle(1000), 0);
        x.mail(LETTER, 0, 1, 1, 0, false);
        x.go(2);
        checks.is("settle by 1", x.settle(1), 10);
        checkAccounts(x, "settled by 1", 2000 - 10010010, 10010 - 2000, 10000000);
    }

    private static void promise26Counted() {
        Trial x = Worlds.row(2, 1);
        x.sample(true);
        x.due(1, CARD, 10000);
        for (int i = 0; i < 40; i++) {
            x.mail(CARD, 0, 1, 1, 0, false);
        }
        checks.is("forty at once", x.go(2), 40);
        checks.is("counted together", x.counted(0, 1), 400000);
        checks.is("counted for a post itself", x.counted(1, 1), 0);
        for (int wrong : new int[] {-1, 2, 8, Integer.MIN_VALUE, Integer.MAX_VALUE}) {
            checks.isNoSuch("counted from " + wrong, x, () -> x.counted(wrong, 0));
            checks.isNoSuch("counted to " + wrong, x, () -> x.counted(0, wrong));
        }
        checks.is("a due of 0 is no count", x.due(1, CARD, 0), 10000);
        checks.is("what was counted stays", x.counted(0, 1), 400000);
    }
}
