import java.util.function.Supplier;

/** Unions to test on: small ones, one in which each sort of thing stands, and the full one. */
final class Worlds {
    static final int LETTER = Postunion.LETTER, CARD = Postunion.CARD, PRINT = Postunion.PRINT;
    static final int WAITS = Postunion.WAITS, TRAVELS = Postunion.TRAVELS;
    static final int DELIVERED = Postunion.DELIVERED, LOST = Postunion.LOST;

    static final int MOST_POSTS = 8, MOST_LEGS = 20, MOST_THINGS = 40;

    /** The things of busy() and full(), each by what it does; the registered ones end in ONE. */
    static final int DELIVERED_ONE = 0, DELIVERED_PLAIN = 1, WENT_BACK_ONE = 2, LOST_CLAIMED_ONE = 3, LOST_ONE = 4,
        LOST_PLAIN = 5, BACK_WAITS_ONE = 6, BACK_TRAVELS_ONE = 7, TRAVELS_ONE = 8, TRAVELS_REFUSED = 9,
        WAITS_AWAY_ONE = 10, WAITS_HOME_ONE = 11;
    static final int BUSY_POSTS = 4, BUSY_LEGS = 4, BUSY_THINGS = 12;

    /** A union to make as often as it is needed, and how many posts, legs and things it has. */
    record World(String name, Supplier<Trial> maker, int posts, int legs, int things) {
        Trial make() {
            return maker.get();
        }
    }

    static final World BUSY = new World("busy", Worlds::busy, BUSY_POSTS, BUSY_LEGS, BUSY_THINGS);
    static final World FULL = new World("full", Worlds::full, MOST_POSTS, MOST_LEGS, MOST_THINGS);

    private Worlds() {
    }

    static Trial withPosts(int count) {
        Trial x = new Trial();
        for (int i = 0; i < count; i++) {
            x.post();
        }
        return x;
    }

    /** Posts in a row, each with a leg of so many days to the next one. */
    static Trial row(int posts, int days) {
        Trial x = withPosts(posts);
        for (int post = 1; post < posts; post++) {
            x.leg(post - 1, post, days);
        }
        return x;
    }

    static Trial withLegs(int count) {
        Trial x = withPosts(2);
        for (int i = 0; i < count; i++) {
            x.leg(0, 1, 1);
        }
        return x;
    }

    /** Two posts, a leg, and registered letters from the first one. */
    static Trial withThings(int count) {
        Trial x = withLegs(1);
        for (int i = 0; i < count; i++) {
            x.mail(LETTER, 0, 1, 1, 0, true);
        }
        return x;
    }

    static Trial busy() {
        Trial x = row(BUSY_POSTS, 1);
        x.leg(0, 3, 2);
        x.close(3, true);
        for (int post = 0; post < BUSY_POSTS; post++) {
            tellAll(x, post);
        }
        x.sample(true);
        x.mail(LETTER, 0, 1, 1, 7, true);
        x.mail(LETTER, 0, 1, 45, 3, false);
        x.mail(CARD, 0, 1, 20, 0, true);
        x.refuse(WENT_BACK_ONE, true);
        x.go(3);
        x.mail(LETTER, 1, 3, 1, 0, true);
        x.lose(LOST_CLAIMED_ONE);
        x.claim(LOST_CLAIMED_ONE);
        x.mail(PRINT, 1, 3, 30, 5, true);
        x.mail(LETTER, 0, 3, 1, 0, false);
        x.mail(LETTER, 1, 2, 1, 0, true);
        x.mail(LETTER, 0, 1, 1, 0, true);
        x.mail(LETTER, 0, 3, 1, 0, true);
        x.mail(PRINT, 0, 3, 11, 0, false);
        x.mail(LETTER, 1, 3, 1, 0, true);
        x.refuse(BACK_WAITS_ONE, true);
        x.refuse(BACK_TRAVELS_ONE, true);
        x.refuse(TRAVELS_REFUSED, true);
        x.refuse(WAITS_AWAY_ONE, true);
        x.strike(2, true);
        x.go(2);
        x.lose(LOST_ONE);
        x.lose(LOST_PLAIN);
        x.mail(CARD, 3, 0, 20, 2, true);
        return x;
    }

    static Trial full() {
        Trial x = busy();
        for (int post = BUSY_POSTS; post < MOST_POSTS; post++) {
            x.post();
        }
        for (int leg = BUSY_LEGS; leg < MOST_LEGS; leg++) {
            x.leg(leg % MOST_POSTS, (leg + 1) % MOST_POSTS, 1 + leg % 5);
        }
        for (int thing = BUSY_THINGS; thing < MOST_THINGS; thing++) {
            x.mail(PRINT, thing % MOST_POSTS, (thing + 3) % MOST_POSTS, thing, 1, thing % 3 == 0);
        }
        return x;
    }

    private static void tellAll(Trial x, int post) {
        x.rates(post, LETTER, 10 + post, 3);
        x.rates(post, CARD, 5 + post, 1);
        x.rates(post, PRINT, 7, 2);
        for (int kind = LETTER; kind <= PRINT; kind++) {
            x.due(post, kind, 4 + post + kind);
        }
        x.charge(post, post + 1);
        x.coupon(post, 5);
    }
}
