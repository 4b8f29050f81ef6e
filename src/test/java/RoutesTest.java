/** Promises 8 to 12: legs and routes. */
public final class RoutesTest {
    private static final int NONE = Postunion.NONE;
    private static final Checks checks = new Checks("RoutesTest");

    public static void main(String[] args) {
        promise8Leg();
        promise9Close();
        promise10And11Days();
        promise10And11Star();
        promise12Next();
        checks.end();
    }

    private static void checkRoute(Trial x, int from, int to, int days, int next) {
        String both = "(" + from + ", " + to + ")";
        checks.is("days" + both, x.days(from, to), days);
        checks.is("daysAnew" + both, x.daysAnew(from, to), days);
        checks.is("next" + both, x.next(from, to), next);
    }

    private static void promise8Leg() {
        Trial x = Worlds.withPosts(2);
        checks.isNoSuch("leg to post 2, all wrong", x, () -> x.leg(2, 2, 0));
        checks.isNoSuch("leg from post -1", x, () -> x.leg(-1, 0, 1));
        checks.isNoSuch("leg to post 2", x, () -> x.leg(0, 2, 1));
        checks.isBadArgument("leg of 0 days", x, () -> x.leg(0, 1, 0));
        checks.isBadArgument("leg of 101 days", x, () -> x.leg(0, 1, 101));
        checks.isBadArgument("leg to the same", x, () -> x.leg(1, 1, 1));
        checks.is("leg of 100 days", x.leg(1, 0, 100), 0);
        checkRoute(x, 0, 1, 100, 0);
        checkRoute(x, 1, 0, 100, 0);
        for (int number = 1; number < 20; number++) {
            checks.is("leg()", x.leg(0, 1, 50), number);
        }
        checks.isBadState("leg 20", x, () -> x.leg(0, 1, 1));
        checks.isNoSuch("close(20) of 20 legs", x, () -> x.close(20, true));
        checks.is("close(19) of 20 legs", x.close(19, true), false);
        checks.isBadArgument("leg 20 of 0 days", x, () -> x.leg(0, 1, 0));
        checks.isBadArgument("leg 20 to the same", x, () -> x.leg(0, 0, 1));
        checks.isNoSuch("leg 20 to post 2", x, () -> x.leg(0, 2, 1));
    }

    private static void promise9Close() {
        Trial x = Worlds.withPosts(3);
        x.leg(0, 1, 1);
        x.leg(1, 2, 1);
        checks.is("closed at first", x.close(1, false), false);
        checks.is("close", x.close(1, true), false);
        checkRoute(x, 0, 2, NONE, NONE);
        checkRoute(x, 0, 1, 1, 0);
        checks.is("close again", x.close(1, true), true);
        checks.is("the other one", x.close(0, false), false);
        checks.is("open", x.close(1, false), true);
        checkRoute(x, 0, 2, 2, 0);
        checks.is("open again", x.close(1, false), false);
        checks.isNoSuch("close(-1)", x, () -> x.close(-1, true));
        checks.isNoSuch("close(2)", x, () -> x.close(2, true));
        checks.isNoSuch("close(20)", x, () -> x.close(20, true));
        x.mail(Postunion.LETTER, 0, 1, 1, 0, false);
        x.go(1);
        x.close(0, true);
        checks.is("a closed leg lets what travels arrive", x.go(1), 1);
    }

    private static void promise10And11Days() {
        Trial x = Worlds.withPosts(8);
        checkRoute(x, 7, 7, 0, NONE);
        checkRoute(x, 0, 7, NONE, NONE);
        for (int post = 0; post < 7; post++) {
            x.leg(post, post + 1, 100);
        }
        checkRoute(x, 0, 7, 700, 0);
        checkRoute(x, 7, 0, 700, 6);
        x.leg(7, 2, 99);
        checkRoute(x, 0, 7, 299, 0);
        checkRoute(x, 5, 0, 499, 5);
        checkRoute(x, 3, 7, 199, 2);
        x.close(7, true);
        checkRoute(x, 3, 7, 400, 3);
        x.strike(4, true);
        checkRoute(x, 3, 7, 400, 3);
        for (int wrong : new int[] {-1, 8, Integer.MIN_VALUE, Integer.MAX_VALUE}) {
            checks.isNoSuch("days from " + wrong, x, () -> x.days(wrong, 0));
            checks.isNoSuch("days to " + wrong, x, () -> x.days(0, wrong));
            checks.isNoSuch("days from and to " + wrong, x, () -> x.days(wrong, wrong));
            checks.isNoSuch("daysAnew from " + wrong, x, () -> x.daysAnew(wrong, 0));
            checks.isNoSuch("daysAnew to " + wrong, x, () -> x.daysAnew(0, wrong));
            checks.isNoSuch("next from " + wrong, x, () -> x.next(wrong, 0));
            checks.isNoSuch("next to " + wrong, x, () -> x.next(0, wrong));
        }
    }

    /** A star: every way leads through one post, also as that is the first or the last one. */
    private static void promise10And11Star() {
        for (int middle = 0; middle < 8; middle++) {
            Trial x = Worlds.withPosts(8);
            for (int post = 0; post < 8; post++) {
                if (post != middle) {
                    x.leg(post, middle, 1 + post);
                }
            }
            int one = middle == 0 ? 7 : 0;
            int other = middle == 6 ? 5 : 6;
            checkRoute(x, one, other, one + other + 2, middle == 0 ? 6 : 0);
        }
    }

    private static void promise12Next() {
        Trial x = Worlds.withPosts(5);
        x.leg(0, 3, 1);
        x.leg(3, 4, 3);
        x.leg(0, 2, 2);
        x.leg(2, 4, 2);
        checkRoute(x, 0, 4, 4, 2);
        x.leg(0, 2, 2);
        checkRoute(x, 0, 4, 4, 2);
        x.close(2, true);
        checkRoute(x, 0, 4, 4, 4);
        x.leg(0, 1, 1);
        x.leg(1, 4, 4);
        checkRoute(x, 0, 4, 4, 4);
        x.leg(4, 1, 3);
        checkRoute(x, 0, 4, 4, 5);
        x.leg(4, 0, 4);
        checkRoute(x, 0, 4, 4, 5);
        checkRoute(x, 4, 0, 4, 8);
        x.leg(2, 0, 1);
        checkRoute(x, 0, 4, 3, 9);
        checkRoute(x, 0, 0, 0, NONE);
    }
}
