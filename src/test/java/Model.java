import java.util.ArrayList;
import java.util.HashMap;
import java.util.List;
import java.util.Map;

/**
 * The document once more, as slowly and as plainly as it can be written: no table is kept, every
 * route is found by going all ways, and accounts and tills are sums over a list of payments.
 */
final class Model {
    private record Leg(int number, int one, int other, int days) {
    }

    private record Payment(String payer, String payee, long cents) {
    }

    private record Way(int days, int firstLeg, int firstPost) {
    }

    private static final class Thing {
        int kind, origin, target, grams, shortCents, what, post, days, leg = -1;
        boolean registered, refused, back, claimed;
        final List<Integer> hands = new ArrayList<>();
    }

    private int posts = 0;
    private final Map<String, Integer> told = new HashMap<>();
    private final Map<String, Boolean> isTold = new HashMap<>();
    private final Map<String, Long> counts = new HashMap<>();
    private final List<Leg> legs = new ArrayList<>();
    private final List<Thing> things = new ArrayList<>();
    private final List<Payment> payments = new ArrayList<>();

    // ---- what is thrown

    private void index(boolean isFine) {
        if (!isFine) {
            throw new IndexOutOfBoundsException();
        }
    }

    private void argument(boolean isFine) {
        if (!isFine) {
            throw new IllegalArgumentException();
        }
    }

    private void state(boolean isFine) {
        if (!isFine) {
            throw new IllegalStateException();
        }
    }

    private boolean isPost(int post) {
        return 0 <= post && post < posts;
    }

    private boolean isThing(int thing) {
        return 0 <= thing && thing < things.size();
    }

    private boolean isKind(int kind) {
        return kind == 0 || kind == 1 || kind == 2;
    }

    private boolean isGrams(int kind, int grams) {
        return 1 <= grams && grams <= (kind == 1 ? 20 : 2000);
    }

    private boolean isUnderWay(Thing t) {
        return t.what == 0 || t.what == 1;
    }

    // ---- posts, rates

    public int post() {
        state(posts < 8);
        return posts++;
    }

    public void rates(int post, int kind, int first, int further) {
        index(isPost(post));
        argument(isKind(kind) && 0 <= first && first <= 10000 && 0 <= further && further <= 10000);
        tell("first", post, kind, first);
        tell("further", post, kind, further);
    }

    public int due(int post, int kind, int cents) {
        index(isPost(post));
        argument(isKind(kind) && 0 <= cents && cents <= 10000);
        return tell("due", post, kind, cents);
    }

    public int charge(int post, int cents) {
        index(isPost(post));
        argument(0 <= cents && cents <= 1000);
        return tell("charge", post, 0, cents);
    }

    public int coupon(int post, int cents) {
        index(isPost(post));
        argument(0 <= cents && cents <= 10000);
        return tell("coupon", post, 0, cents);
    }

    public boolean strike(int post, boolean isSo) {
        index(isPost(post));
        return tell("strike" + post, isSo);
    }

    private int tell(String what, int post, int kind, int cents) {
        int before = get(what, post, kind);
        told.put(what + post + "/" + kind, cents);
        return before;
    }

    private int get(String what, int post, int kind) {
        return told.getOrDefault(what + post + "/" + kind, 0);
    }

    private boolean tell(String what, boolean isSo) {
        boolean before = is(what);
        isTold.put(what, isSo);
        return before;
    }

    private boolean is(String what) {
        return isTold.getOrDefault(what, false);
    }

    // ---- legs, routes

    public int leg(int one, int other, int days) {
        index(isPost(one) && isPost(other));
        argument(one != other && 1 <= days && days <= 100);
        state(legs.size() < 20);
        legs.add(new Leg(legs.size(), one, other, days));
        return legs.size() - 1;
    }

    public boolean close(int leg, boolean isSo) {
        index(0 <= leg && leg < legs.size());
        return tell("closed" + leg, isSo);
    }

    public int days(int from, int to) {
        index(isPost(from) && isPost(to));
        Way way = best(from, to);
        return way == null ? -1 : way.days;
    }

    public int daysAnew(int from, int to) {
        return days(from, to);
    }

    public int next(int from, int to) {
        index(isPost(from) && isPost(to));
        Way way = best(from, to);
        return way == null || from == to ? -1 : way.firstLeg;
    }

    private Way best(int from, int to) {
        List<Way> ways = new ArrayList<>();
        goOn(from, to, new ArrayList<>(List.of(from)), new Way(0, -1, -1), ways);
        Way best = null;
        for (Way way : ways) {
            if (best == null || isBefore(way, best)) {
                best = way;
            }
        }
        return best;
    }

    private static boolean isBefore(Way one, Way other) {
        if (one.days != other.days) {
            return one.days < other.days;
        }
        if (one.firstPost != other.firstPost) {
            return one.firstPost < other.firstPost;
        }
        return one.firstLeg < other.firstLeg;
    }

    private void goOn(int at, int to, List<Integer> seen, Way way, List<Way> ways) {
        if (at == to) {
            ways.add(way);
            return;
        }
        for (Leg leg : legs) {
            if (is("closed" + leg.number) || leg.one != at && leg.other != at) {
                continue;
            }
            int far = leg.one + leg.other - at;
            if (seen.contains(far)) {
                continue;
            }
            seen.add(far);
            boolean isFirst = way.firstLeg < 0;
            goOn(far, to, seen, new Way(way.days + leg.days, isFirst ? leg.number : way.firstLeg,
                    isFirst ? far : way.firstPost), ways);
            seen.remove((Integer) far);
        }
    }

    // ---- things, days

    public int mail(int kind, int from, int to, int grams, int paid, boolean isRegistered) {
        index(isPost(from) && isPost(to));
        argument(isKind(kind) && isGrams(kind, grams) && 0 <= paid && paid <= 100000 && from != to);
        state(things.size() < 40);
        Thing t = new Thing();
        t.kind = kind;
        t.origin = from;
        t.post = from;
        t.target = to;
        t.grams = grams;
        t.registered = isRegistered;
        int rate = rate(kind, from, grams, isRegistered);
        t.shortCents = rate > paid ? rate - paid : 0;
        if (isRegistered) {
            t.hands.add(from);
        }
        things.add(t);
        payments.add(new Payment("outside", "till" + from, paid));
        return things.size() - 1;
    }

    public int redirect(int thing, int to) {
        index(isThing(thing) && isPost(to));
        Thing t = things.get(thing);
        argument(!(t.what == 0 && t.post == to));
        state(isUnderWay(t) && !t.back);
        int before = t.target;
        t.target = to;
        return before;
    }

    public boolean refuse(int thing, boolean isSo) {
        index(isThing(thing));
        Thing t = things.get(thing);
        state(isUnderWay(t) && !t.back);
        boolean before = t.refused;
        t.refused = isSo;
        return before;
    }

    public int go(int days) {
        argument(1 <= days && days <= 200);
        int delivered = 0;
        for (int day = 1; day <= days; day++) {
            for (Thing t : things) {
                if (t.what == 1) {
                    t.days -= 1;
                    if (t.days == 0) {
                        arrive(t);
                        delivered += t.what == 2 ? 1 : 0;
                    }
                }
            }
            for (Thing t : things) {
                if (t.what == 0) {
                    depart(t);
                }
            }
        }
        return delivered;
    }

    private void arrive(Thing t) {
        t.what = 0;
        t.leg = -1;
        if (t.registered) {
            t.hands.add(t.post);
        }
        if (t.post != t.target) {
            return;
        }
        if (t.back) {
            t.what = 2;
        } else if (t.refused && tax(t) > 0 && t.target != t.origin) {
            t.back = true;
            t.target = t.origin;
        } else {
            t.what = 2;
            payments.add(new Payment("outside", "till" + t.target, tax(t)));
            long due = get("due", t.target, t.kind);
            if (t.target != t.origin && t.registered) {
                payments.add(new Payment("account" + t.origin, "account" + t.target, due));
            } else if (t.target != t.origin && is("samples")) {
                counts.merge(t.origin + "to" + t.target, due, Long::sum);
            }
        }
    }

    private void depart(Thing t) {
        int number = next(t.post, t.target);
        if (is("strike" + t.post) || number == -1) {
            return;
        }
        if (t.post != t.origin) {
            int parts = t.grams / 10 + (t.grams % 10 == 0 ? 0 : 1);
            long cents = (long) parts * get("charge", t.post, 0);
            payments.add(new Payment("account" + t.origin, "account" + t.post, cents));
        }
        Leg leg = legs.get(number);
        t.what = 1;
        t.leg = number;
        t.post = leg.one + leg.other - t.post;
        t.days = leg.days;
    }

    public int lose(int thing) {
        index(isThing(thing));
        Thing t = things.get(thing);
        state(isUnderWay(t));
        t.what = 3;
        return t.registered ? t.hands.get(t.hands.size() - 1) : -1;
    }

    public int claim(int thing) {
        index(isThing(thing));
        Thing t = things.get(thing);
        state(t.what == 3 && t.registered && !t.claimed);
        t.claimed = true;
        payments.add(new Payment("till" + t.origin, "outside", 4000));
        int paid = 0;
        if (t.leg == -1) {
            paid += claimFrom(t.post, t.origin, 4000);
        } else {
            paid += claimFrom(legs.get(t.leg).one, t.origin, 2000);
            paid += claimFrom(legs.get(t.leg).other, t.origin, 2000);
        }
        return paid;
    }

    private int claimFrom(int post, int origin, int cents) {
        payments.add(new Payment("account" + post, "account" + origin, cents));
        return post == origin ? 0 : cents;
    }

    // ---- samples, settling

    public boolean sample(boolean isSo) {
        return tell("samples", isSo);
    }

    public long settle(int factor) {
        argument(1 <= factor && factor <= 1000);
        long together = 0;
        for (int from = 0; from < posts; from++) {
            for (int to = 0; to < posts; to++) {
                long cents = counted(from, to) * factor;
                payments.add(new Payment("account" + from, "account" + to, cents));
                together += cents;
            }
        }
        counts.clear();
        return together;
    }

    // ---- what is asked

    public int rate(int kind, int from, int grams, boolean isRegistered) {
        index(isPost(from));
        argument(isKind(kind) && isGrams(kind, grams));
        int rate = get("first", from, kind);
        for (int beyond = grams - 20; beyond > 0; beyond -= 20) {
            rate += get("further", from, kind);
        }
        return isRegistered ? rate + 50 : rate;
    }

    public long ofThing(int thing, int what) {
        index(isThing(thing));
        argument(0 <= what && what <= 6);
        Thing t = things.get(thing);
        long[] answers = {t.what, t.post, t.what == 1 ? t.days : 0, t.target, tax(t), t.back ? 1 : 0, t.hands.size()};
        return answers[what];
    }

    private long tax(Thing t) {
        long twice = 2L * t.shortCents;
        long own = get("first", t.origin, 0);
        return own == 0 ? twice : Math.floorDiv(twice * get("first", t.target, 0), own);
    }

    public int hand(int thing, int place) {
        index(isThing(thing));
        index(0 <= place && place < things.get(thing).hands.size());
        return things.get(thing).hands.get(place);
    }

    public long account(int post) {
        index(isPost(post));
        return sum("account" + post);
    }

    public long till(int post) {
        index(isPost(post));
        return sum("till" + post);
    }

    private long sum(String purse) {
        long sum = 0;
        for (Payment payment : payments) {
            sum += payment.payee.equals(purse) ? payment.cents : 0;
            sum -= payment.payer.equals(purse) ? payment.cents : 0;
        }
        return sum;
    }

    public long counted(int from, int to) {
        index(isPost(from) && isPost(to));
        return counts.getOrDefault(from + "to" + to, 0L);
    }

    public int gain(int what) {
        argument(0 <= what && what <= 2);
        int[] best = {0, -1, -1};
        for (int one = posts - 1; one >= 0; one--) {
            for (int other = posts - 1; other >= 0; other--) {
                int price = get("coupon", one, 0);
                int gain = get("first", other, 0) - price;
                if (one != other && price > 0 && gain > 0 && gain >= best[0]) {
                    best = new int[] {gain, one, other};
                }
            }
        }
        return best[0] == 0 ? -1 : best[what];
    }
}
