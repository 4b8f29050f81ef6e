import java.util.Arrays;

/**
 * Posts, the legs between them, the things that go over them, and what the posts owe one another.
 * What each call promises stands in DOC.md; the part of Java that is used here, in LANGUAGE.md.
 */
public final class Postunion {
    public static final int NONE = -1;
    public static final int LETTER = 0, CARD = 1, PRINT = 2;
    public static final int WAITS = 0, TRAVELS = 1, DELIVERED = 2, LOST = 3;

    private static final int KINDS = 3;
    private static final int MOST_POSTS = 8;
    private static final int MOST_LEGS = 20;
    private static final int MOST_THINGS = 40;
    private static final int MOST_CENTS = 10000;
    private static final int MOST_CHARGE = 1000;
    private static final int MOST_PAID = 100000;
    private static final int MOST_GRAMS = 2000;
    private static final int MOST_CARD_GRAMS = 20;
    private static final int MOST_LEG_DAYS = 100;
    private static final int MOST_DAYS_AT_ONCE = 200;
    private static final int MOST_FACTOR = 1000;
    private static final int GRAMS_OF_A_RATE = 20;
    private static final int GRAMS_OF_A_CHARGE = 10;
    private static final int REGISTERED_MORE = 50;
    private static final int CLAIM = 4000;

    private final Post[] posts = new Post[MOST_POSTS];
    private final Thing[] things = new Thing[MOST_THINGS];
    private final Routes routes = new Routes();
    private int postCount = 0;
    private int thingCount = 0;
    private boolean isOfSamples = false;

    public Postunion() {
    }

    // ---- posts, rates

    public int post() throws IllegalStateException {
        if (postCount >= MOST_POSTS) {
            throw new IllegalStateException("there are 8 posts");
        }
        posts[postCount] = new Post(postCount);
        postCount++;
        return postCount - 1;
    }

    public void rates(int post, int kind, int first, int further)
            throws IndexOutOfBoundsException, IllegalArgumentException {
        Post teller = postOf(post);
        demandKind(kind);
        demandWithin(first, 0, MOST_CENTS);
        demandWithin(further, 0, MOST_CENTS);
        teller.firstRates[kind] = first;
        teller.furtherRates[kind] = further;
    }

    public int due(int post, int kind, int cents)
            throws IndexOutOfBoundsException, IllegalArgumentException {
        Post teller = postOf(post);
        demandKind(kind);
        demandWithin(cents, 0, MOST_CENTS);
        int before = teller.dues[kind];
        teller.dues[kind] = cents;
        return before;
    }

    public int charge(int post, int cents) throws IndexOutOfBoundsException, IllegalArgumentException {
        Post teller = postOf(post);
        demandWithin(cents, 0, MOST_CHARGE);
        int before = teller.chargeTold;
        teller.chargeTold = cents;
        return before;
    }

    public int coupon(int post, int cents) throws IndexOutOfBoundsException, IllegalArgumentException {
        Post teller = postOf(post);
        demandWithin(cents, 0, MOST_CENTS);
        int before = teller.couponPrice;
        teller.couponPrice = cents;
        return before;
    }

    public boolean strike(int post, boolean isSo) throws IndexOutOfBoundsException {
        Post striker = postOf(post);
        boolean before = striker.isStriking;
        striker.isStriking = isSo;
        return before;
    }

    // ---- legs, routes

    public int leg(int one, int other, int days)
            throws IndexOutOfBoundsException, IllegalArgumentException, IllegalStateException {
        Post oneEnd = postOf(one);
        Post otherEnd = postOf(other);
        demandWithin(days, 1, MOST_LEG_DAYS);
        if (oneEnd == otherEnd) {
            throw new IllegalArgumentException("a leg from a post to itself");
        }
        int number = routes.addLeg(oneEnd, otherEnd, days);
        if (number == NONE) {
            throw new IllegalStateException("there are 20 legs");
        }
        return number;
    }

    public boolean close(int leg, boolean isSo) throws IndexOutOfBoundsException {
        Leg told = routes.legOf(leg);
        if (told == null) {
            throw new IndexOutOfBoundsException("no such leg");
        }
        return routes.setClosed(told, isSo);
    }

    public int days(int from, int to) throws IndexOutOfBoundsException {
        return routes.leastDays(postOf(from), postOf(to));
    }

    public int daysAnew(int from, int to) throws IndexOutOfBoundsException {
        return routes.leastDaysOfAllWays(postOf(from), postOf(to));
    }

    public int next(int from, int to) throws IndexOutOfBoundsException {
        return routes.onwardLeg(postOf(from), postOf(to));
    }

    // ---- things, days

    public int mail(int kind, int from, int to, int grams, int paid, boolean isRegistered)
            throws IndexOutOfBoundsException, IllegalArgumentException, IllegalStateException {
        Post origin = postOf(from);
        Post target = postOf(to);
        demandKind(kind);
        demandGrams(kind, grams);
        demandWithin(paid, 0, MOST_PAID);
        if (origin == target) {
            throw new IllegalArgumentException("a thing from a post to itself");
        }
        if (thingCount >= MOST_THINGS) {
            throw new IllegalStateException("there are 40 things");
        }
        int lacking = Math.max(0, origin.rateOf(kind, grams, isRegistered) - paid);
        origin.tillCents += paid;
        things[thingCount] = new Thing(kind, origin, target, grams, lacking, isRegistered);
        thingCount++;
        return thingCount - 1;
    }

    public int redirect(int thing, int to)
            throws IndexOutOfBoundsException, IllegalArgumentException, IllegalStateException {
        Thing redirected = thingOf(thing);
        Post target = postOf(to);
        if (redirected.state == WAITS && redirected.place == target) {
            throw new IllegalArgumentException("the thing waits at that post");
        }
        demandChangeable(redirected);
        int before = redirected.target.number;
        redirected.target = target;
        return before;
    }

    public boolean refuse(int thing, boolean isSo) throws IndexOutOfBoundsException, IllegalStateException {
        Thing refused = thingOf(thing);
        demandChangeable(refused);
        boolean before = refused.isRefused;
        refused.isRefused = isSo;
        return before;
    }

    public int go(int days) throws IllegalArgumentException {
        demandWithin(days, 1, MOST_DAYS_AT_ONCE);
        int delivered = 0;
        for (int day = 0; day < days; day++) {
            delivered += moveThoseThatTravel();
            sendThoseThatWait();
        }
        return delivered;
    }

    public int lose(int thing) throws IndexOutOfBoundsException, IllegalStateException {
        Thing lost = thingOf(thing);
        if (!lost.isUnderWay()) {
            throw new IllegalStateException("the thing neither waits nor travels");
        }
        // The leg is kept: a claim asks whether the thing travelled, and on which.
        lost.state = LOST;
        lost.daysLeft = 0;
        return lost.latestHand();
    }

    public int claim(int thing) throws IndexOutOfBoundsException, IllegalStateException {
        Thing lost = thingOf(thing);
        if (lost.state != LOST || !lost.isRegistered || lost.isClaimed) {
            throw new IllegalStateException("nothing can be claimed for the thing");
        }
        lost.isClaimed = true;
        lost.origin.tillCents -= CLAIM;
        Leg leg = lost.leg;
        if (leg == null) {
            return payClaim(lost.place, lost.origin, CLAIM);
        }
        return payClaim(leg.one, lost.origin, CLAIM / 2) + payClaim(leg.other, lost.origin, CLAIM / 2);
    }

    // ---- samples, settling

    public boolean sample(boolean isSo) {
        boolean before = isOfSamples;
        isOfSamples = isSo;
        return before;
    }

    public long settle(int factor) throws IllegalArgumentException {
        demandWithin(factor, 1, MOST_FACTOR);
        long together = 0;
        for (int from = 0; from < postCount; from++) {
            for (int to = 0; to < postCount; to++) {
                together += settlePair(posts[from], posts[to], factor);
            }
        }
        return together;
    }

    // ---- what is asked

    public int rate(int kind, int from, int grams, boolean isRegistered)
            throws IndexOutOfBoundsException, IllegalArgumentException {
        Post origin = postOf(from);
        demandKind(kind);
        demandGrams(kind, grams);
        return origin.rateOf(kind, grams, isRegistered);
    }

    public long ofThing(int thing, int what) throws IndexOutOfBoundsException, IllegalArgumentException {
        Thing told = thingOf(thing);
        switch (what) {
            case 0:
                return told.state;
            case 1:
                return told.place.number;
            case 2:
                return told.daysLeft;
            case 3:
                return told.target.number;
            case 4:
                return told.taxOfNow();
            case 5:
                return told.isBack ? 1 : 0;
            case 6:
                return told.handCount;
            default:
                throw new IllegalArgumentException("what is out of range");
        }
    }

    public int hand(int thing, int place) throws IndexOutOfBoundsException {
        Thing told = thingOf(thing);
        if (place < 0 || place >= told.handCount) {
            throw new IndexOutOfBoundsException("the thing has not so many hands");
        }
        return told.hands[place];
    }

    public long account(int post) throws IndexOutOfBoundsException {
        return postOf(post).accountCents;
    }

    public long till(int post) throws IndexOutOfBoundsException {
        return postOf(post).tillCents;
    }

    public long counted(int from, int to) throws IndexOutOfBoundsException {
        Post origin = postOf(from);
        Post target = postOf(to);
        return origin.countedFor[target.number];
    }

    public int gain(int what) throws IllegalArgumentException {
        demandWithin(what, 0, 2);
        int greatest = 0;
        int seller = NONE;
        int taker = NONE;
        for (int one = 0; one < postCount; one++) {
            for (int other = 0; other < postCount; other++) {
                int gained = gainOf(posts[one], posts[other]);
                if (gained > greatest) {
                    greatest = gained;
                    seller = one;
                    taker = other;
                }
            }
        }
        if (greatest == 0) {
            return NONE;
        }
        return what == 0 ? greatest : what == 1 ? seller : taker;
    }

    // ---- what the calls demand

    private Post postOf(int number) {
        if (number < 0 || number >= postCount) {
            throw new IndexOutOfBoundsException("no such post");
        }
        return posts[number];
    }

    private Thing thingOf(int number) {
        if (number < 0 || number >= thingCount) {
            throw new IndexOutOfBoundsException("no such thing");
        }
        return things[number];
    }

    private static void demandWithin(int number, int least, int most) {
        if (number < least || number > most) {
            throw new IllegalArgumentException("out of range");
        }
    }

    private static void demandKind(int kind) {
        demandWithin(kind, LETTER, PRINT);
    }

    private static void demandGrams(int kind, int grams) {
        demandWithin(grams, 1, kind == CARD ? MOST_CARD_GRAMS : MOST_GRAMS);
    }

    private static void demandChangeable(Thing thing) {
        if (!thing.isUnderWay() || thing.isBack) {
            throw new IllegalStateException("the thing is not under way, or goes back");
        }
    }

    // ---- a day

    private int moveThoseThatTravel() {
        int delivered = 0;
        for (int number = 0; number < thingCount; number++) {
            Thing thing = things[number];
            if (thing.state == TRAVELS && thing.arrivesToday() && thing.place == thing.target) {
                endAtTarget(thing);
                delivered += thing.state == DELIVERED ? 1 : 0;
            }
        }
        return delivered;
    }

    private void endAtTarget(Thing thing) {
        if (thing.isBack) {
            thing.state = DELIVERED;
            return;
        }
        long tax = thing.taxOfNow();
        if (thing.isRefused && tax > 0 && thing.target != thing.origin) {
            thing.isBack = true;
            thing.target = thing.origin;
            return;
        }
        thing.state = DELIVERED;
        thing.target.tillCents += tax;
        if (thing.target != thing.origin) {
            oweDue(thing);
        }
    }

    private void oweDue(Thing thing) {
        int cents = thing.target.dues[thing.kind];
        if (thing.isRegistered) {
            pay(thing.origin, thing.target, cents);
        } else if (isOfSamples) {
            thing.origin.countedFor[thing.target.number] += cents;
        }
    }

    private void sendThoseThatWait() {
        for (int number = 0; number < thingCount; number++) {
            Thing thing = things[number];
            if (thing.state == WAITS && !thing.place.isStriking) {
                sendOn(thing);
            }
        }
    }

    private void sendOn(Thing thing) {
        Leg onward = routes.legOf(routes.onwardLeg(thing.place, thing.target));
        if (onward == null) {
            return;
        }
        if (thing.place != thing.origin) {
            pay(thing.origin, thing.place, thing.place.chargeFor(thing.grams));
        }
        thing.departOn(onward);
    }

    // ---- what is paid

    private static void pay(Post payer, Post payee, long cents) {
        payer.accountCents -= cents;
        payee.accountCents += cents;
    }

    private static int payClaim(Post payer, Post origin, int cents) {
        if (payer == origin) {
            return 0;
        }
        pay(payer, origin, cents);
        return cents;
    }

    private static long settlePair(Post origin, Post target, int factor) {
        long cents = origin.countedFor[target.number] * factor;
        origin.countedFor[target.number] = 0;
        pay(origin, target, cents);
        return cents;
    }

    private static int gainOf(Post seller, Post taker) {
        if (seller == taker || seller.couponPrice == 0) {
            return 0;
        }
        return taker.firstRates[LETTER] - seller.couponPrice;
    }

    private static int begunParts(int grams, int gramsOfPart) {
        return gramsOfPart > 0 && grams > 0 ? (grams - 1) / gramsOfPart + 1 : 0;
    }

    /** What a post tells, and its money. */
    private static final class Post {
        final int number;
        final int[] firstRates = new int[KINDS];
        final int[] furtherRates = new int[KINDS];
        final int[] dues = new int[KINDS];
        /** Counted, not yet settled, for things from this post, by the number of their target. */
        final long[] countedFor = new long[MOST_POSTS];
        int chargeTold = 0;
        int couponPrice = 0;
        boolean isStriking = false;
        long accountCents = 0;
        long tillCents = 0;

        Post(int number) {
            this.number = number;
        }

        int rateOf(int kind, int grams, boolean isRegistered) {
            int further = furtherRates[kind] * begunParts(grams - GRAMS_OF_A_RATE, GRAMS_OF_A_RATE);
            return firstRates[kind] + further + (isRegistered ? REGISTERED_MORE : 0);
        }

        long chargeFor(int grams) {
            return (long) chargeTold * begunParts(grams, GRAMS_OF_A_CHARGE);
        }
    }

    /** A leg between two posts, both ways. */
    private static final class Leg {
        final Post one;
        final Post other;
        final int length;
        boolean isClosed = false;

        Leg(Post one, Post other, int length) {
            this.one = one;
            this.other = other;
            this.length = length;
        }

        Post farEnd(Post from) {
            return from == one ? other : one;
        }

        /** The number of the post to which it leads from that one, while it is open; else NONE. */
        int leadsTo(int from) {
            if (isClosed) {
                return NONE;
            }
            return from == one.number ? other.number : from == other.number ? one.number : NONE;
        }
    }

    /** The legs; the tables are reckoned as a leg changes, so that each day of many looks up only. */
    private static final class Routes {
        /** Above every sum of days that leads anywhere (7 legs of 100 days), and doubled still an int. */
        private static final int FAR = 1000000;

        private final Leg[] legs = new Leg[MOST_LEGS];
        /** By both posts: the days of the shortest open leg between them. */
        private final int[] direct = new int[MOST_POSTS * MOST_POSTS];
        private final int[] least = new int[MOST_POSTS * MOST_POSTS];
        private final int[] onward = new int[MOST_POSTS * MOST_POSTS];
        private int legCount = 0;

        Routes() {
            reckon();
        }

        /** Answers the leg's number; NONE, if there is no room for it. */
        int addLeg(Post one, Post other, int length) {
            if (legCount >= MOST_LEGS) {
                return NONE;
            }
            legs[legCount] = new Leg(one, other, length);
            legCount++;
            reckon();
            return legCount - 1;
        }

        /** Null, if there is no such leg. */
        Leg legOf(int number) {
            return number >= 0 && number < legCount ? legs[number] : null;
        }

        /** Answers whether it was closed before. */
        boolean setClosed(Leg leg, boolean isSo) {
            boolean before = leg.isClosed;
            leg.isClosed = isSo;
            if (before != isSo) {
                reckon();
            }
            return before;
        }

        int leastDays(Post from, Post to) {
            return noneIfFar(least[cell(from.number, to.number)]);
        }

        int leastDaysOfAllWays(Post from, Post to) {
            return noneIfFar(leastOfWays(direct, from.number, to.number, 1 << from.number, 0));
        }

        int onwardLeg(Post from, Post to) {
            return onward[cell(from.number, to.number)];
        }

        private static int cell(int from, int to) {
            return from * MOST_POSTS + to;
        }

        private static int noneIfFar(int sum) {
            return sum < FAR ? sum : NONE;
        }

        private static int leastOfWays(int[] direct, int from, int to, int seen, int depth) {
            if (from == to) {
                return 0;
            }
            int found = FAR;
            if (depth >= MOST_POSTS) {
                return found;
            }
            for (int via = 0; via < MOST_POSTS; via++) {
                int first = direct[cell(from, via)];
                if (first < FAR && (seen & 1 << via) == 0) {
                    int rest = leastOfWays(direct, via, to, seen | 1 << via, depth + 1);
                    found = Math.min(found, first + rest);
                }
            }
            return found;
        }

        private void reckon() {
            reckonDirect();
            reckonLeast();
            reckonOnward();
        }

        private void reckonDirect() {
            Arrays.fill(direct, FAR);
            for (int number = 0; number < legCount; number++) {
                Leg leg = legs[number];
                if (!leg.isClosed) {
                    shorten(leg.one.number, leg.other.number, leg.length);
                    shorten(leg.other.number, leg.one.number, leg.length);
                }
            }
        }

        private void shorten(int from, int to, int length) {
            direct[cell(from, to)] = Math.min(direct[cell(from, to)], length);
        }

        private void reckonLeast() {
            System.arraycopy(direct, 0, least, 0, direct.length);
            for (int post = 0; post < MOST_POSTS; post++) {
                least[cell(post, post)] = 0;
            }
            for (int via = 0; via < MOST_POSTS; via++) {
                for (int from = 0; from < MOST_POSTS; from++) {
                    for (int to = 0; to < MOST_POSTS; to++) {
                        int sum = least[cell(from, via)] + least[cell(via, to)];
                        least[cell(from, to)] = Math.min(least[cell(from, to)], sum);
                    }
                }
            }
        }

        private void reckonOnward() {
            for (int from = 0; from < MOST_POSTS; from++) {
                for (int to = 0; to < MOST_POSTS; to++) {
                    onward[cell(from, to)] = firstLegOf(from, to);
                }
            }
        }

        /** NONE for a post itself and for one that is FAR: a leg's days are 1 or more, so no sum fits. */
        private int firstLegOf(int from, int to) {
            int chosen = NONE;
            int chosenEnd = MOST_POSTS;
            for (int number = 0; number < legCount; number++) {
                Leg leg = legs[number];
                int end = leg.leadsTo(from);
                if (end != NONE && end < chosenEnd
                        && leg.length + least[cell(end, to)] == least[cell(from, to)]) {
                    chosen = number;
                    chosenEnd = end;
                }
            }
            return chosen;
        }
    }

    /** A thing that is mailed. */
    private static final class Thing {
        private static final int FIRST_HANDS = 8;
        /**
         * With one target a thing arrives at most 8 times in a call of go, and once in its life it
         * turns back for 7 more; so 512 calls stay below this, and later ones cannot fill the room.
         */
        private static final int MOST_HANDS = 8192;

        final int kind;
        final Post origin;
        final int grams;
        /** What was short as it was mailed. */
        final int lacking;
        final boolean isRegistered;
        Post target;
        /** Where it waits, or is, or was, delivered or lost; if it travels, or did, where to. */
        Post place;
        /** On which it travels, or did as it was lost; null if it does not. */
        Leg leg = null;
        int state = WAITS;
        int daysLeft = 0;
        boolean isRefused = false;
        boolean isBack = false;
        boolean isClaimed = false;
        int[] hands;
        int handCount = 0;

        Thing(int kind, Post origin, Post target, int grams, int lacking, boolean isRegistered) {
            this.kind = kind;
            this.origin = origin;
            this.target = target;
            this.place = origin;
            this.grams = grams;
            this.lacking = lacking;
            this.isRegistered = isRegistered;
            this.hands = new int[isRegistered ? FIRST_HANDS : 0];
            sign();
        }

        boolean isUnderWay() {
            return state == WAITS || state == TRAVELS;
        }

        long taxOfNow() {
            long doubled = 2L * lacking;
            int divisor = origin.firstRates[LETTER];
            return divisor == 0 ? doubled : doubled * target.firstRates[LETTER] / divisor;
        }

        void departOn(Leg next) {
            leg = next;
            place = next.farEnd(place);
            daysLeft = next.length;
            state = TRAVELS;
        }

        /** Lets it travel for a day; answers whether it has arrived by that, and waits. */
        boolean arrivesToday() {
            daysLeft--;
            if (daysLeft > 0) {
                return false;
            }
            leg = null;
            state = WAITS;
            sign();
            return true;
        }

        int latestHand() {
            return handCount > 0 ? hands[handCount - 1] : NONE;
        }

        private void sign() {
            if (!isRegistered || handCount >= MOST_HANDS) {
                return;
            }
            if (handCount >= hands.length) {
                hands = Arrays.copyOf(hands, Math.min(MOST_HANDS, 2 * handCount));
            }
            hands[handCount] = place.number;
            handCount++;
        }
    }
}
