import java.util.ArrayList;
import java.util.List;

/**
 * All that can be told of an object: what is asked; what other calls answer of what was there before
 * (dues, strikes, closed legs, refusals, claims ..), how much room is left, and what the days to come bring.
 * As many equal objects are made for that as are needed, for none may serve for more than 512 calls.
 */
final class Told {
    private record Probe(String name, Trial.Call call) {
    }

    private static final int HANDS = 4;

    private final int posts;
    private final int legs;
    private final int things;
    /** How many probes an object serves for, the same whether the call that is in doubt was made or not. */
    private final int probesOfAnObject;

    Told(int posts, int legs, int things, int callsBefore) {
        this.posts = posts;
        this.legs = legs;
        this.things = things;
        // One call more, as the days to come are told after a call of go.
        this.probesOfAnObject = Trial.MOST_CALLS - callsBefore - 1;
        if (probesOfAnObject < 1) {
            throw new AssertionError("no call is left to tell anything by");
        }
    }

    /** The first that is told otherwise of an object with these calls than of one with those; empty if nothing. */
    String difference(List<Trial.Call> these, List<Trial.Call> those) {
        List<Probe> asked = asked();
        String difference = difference(these, those, asked);
        if (difference.isEmpty()) {
            difference = difference(these, those, before());
        }
        if (difference.isEmpty()) {
            difference = difference(these, those, room());
        }
        if (difference.isEmpty()) {
            difference = difference(and(these, x -> x.go(200)), and(those, x -> x.go(200)), asked);
        }
        if (difference.isEmpty()) {
            difference = difference(and(these, x -> x.settle(7)), and(those, x -> x.settle(7)), money());
        }
        return difference;
    }

    private static List<Trial.Call> and(List<Trial.Call> calls, Trial.Call call) {
        List<Trial.Call> all = new ArrayList<>(calls);
        all.add(call);
        return all;
    }

    private String difference(List<Trial.Call> these, List<Trial.Call> those, List<Probe> probes) {
        for (int from = 0; from < probes.size(); from += probesOfAnObject) {
            Postunion one = made(these);
            Postunion other = made(those);
            for (Probe probe : probes.subList(from, Math.min(probes.size(), from + probesOfAnObject))) {
                String got = answer(one, probe.call);
                String want = answer(other, probe.call);
                if (!got.equals(want)) {
                    return probe.name + " answers " + got + " after it, " + want + " without it";
                }
            }
        }
        return "";
    }

    private static Postunion made(List<Trial.Call> calls) {
        Postunion x = new Postunion();
        for (Trial.Call call : calls) {
            answer(x, call);
        }
        return x;
    }

    private static String answer(Postunion x, Trial.Call call) {
        try {
            return String.valueOf(call.on(x));
        } catch (RuntimeException thrown) {
            return "throws." + thrown.getClass().getName();
        }
    }

    private List<Probe> asked() {
        List<Probe> probes = new ArrayList<>();
        for (int i = 0; i < 3; i++) {
            int what = i;
            probes.add(new Probe("gain(" + what + ")", x -> x.gain(what)));
        }
        // One number more than there are, of posts and of things, shows that none has come.
        for (int post = 0; post <= posts; post++) {
            addPost(probes, post);
            for (int other = 0; other <= posts; other++) {
                addPair(probes, post, other);
            }
        }
        for (int thing = 0; thing <= things; thing++) {
            addThing(probes, thing);
        }
        return probes;
    }

    private static void addPost(List<Probe> probes, int post) {
        probes.add(new Probe("account(" + post + ")", x -> x.account(post)));
        probes.add(new Probe("till(" + post + ")", x -> x.till(post)));
        for (int i = Postunion.LETTER; i <= Postunion.PRINT; i++) {
            int kind = i;
            int grams = kind == Postunion.CARD ? 20 : 21;
            probes.add(new Probe("rate of kind " + kind + " of " + post, x -> x.rate(kind, post, 1, false)));
            probes.add(new Probe("further rate of kind " + kind + " of " + post, x -> x.rate(kind, post, grams, true)));
        }
    }

    private static void addPair(List<Probe> probes, int from, int to) {
        String both = "(" + from + ", " + to + ")";
        probes.add(new Probe("days" + both, x -> x.days(from, to)));
        probes.add(new Probe("daysAnew" + both, x -> x.daysAnew(from, to)));
        probes.add(new Probe("next" + both, x -> x.next(from, to)));
        probes.add(new Probe("counted" + both, x -> x.counted(from, to)));
    }

    private List<Probe> money() {
        List<Probe> probes = new ArrayList<>();
        for (int i = 0; i < posts; i++) {
            int post = i;
            probes.add(new Probe("account(" + post + ")", x -> x.account(post)));
            probes.add(new Probe("till(" + post + ")", x -> x.till(post)));
        }
        return probes;
    }

    private static void addThing(List<Probe> probes, int thing) {
        for (int i = 0; i < 7; i++) {
            int what = i;
            probes.add(new Probe("ofThing(" + thing + ", " + what + ")", x -> x.ofThing(thing, what)));
        }
        for (int i = 0; i < HANDS; i++) {
            int place = i;
            probes.add(new Probe("hand(" + thing + ", " + place + ")", x -> x.hand(thing, place)));
        }
    }

    /** What is told now where a call answers what was told before. */
    private List<Probe> before() {
        List<Probe> probes = new ArrayList<>();
        probes.add(new Probe("sample", x -> x.sample(false)));
        for (int i = 0; i < posts; i++) {
            int post = i;
            for (int kind = Postunion.LETTER; kind <= Postunion.PRINT; kind++) {
                int of = kind;
                probes.add(new Probe("due of kind " + of + " of " + post, x -> x.due(post, of, 0)));
            }
            probes.add(new Probe("charge of " + post, x -> x.charge(post, 0)));
            probes.add(new Probe("coupon of " + post, x -> x.coupon(post, 0)));
            probes.add(new Probe("strike of " + post, x -> x.strike(post, false)));
        }
        for (int i = 0; i <= legs; i++) {
            int leg = i;
            probes.add(new Probe("close(" + leg + ")", x -> x.close(leg, false)));
        }
        for (int i = 0; i < things; i++) {
            int thing = i;
            probes.add(new Probe("refuse(" + thing + ")", x -> x.refuse(thing, false)));
            probes.add(new Probe("claim(" + thing + ")", x -> x.claim(thing)));
            probes.add(new Probe("lose(" + thing + ")", x -> x.lose(thing)));
            probes.add(new Probe("claim(" + thing + ") as it is lost", x -> x.claim(thing)));
        }
        probes.addAll(money());
        return probes;
    }

    private List<Probe> room() {
        List<Probe> probes = new ArrayList<>();
        for (int i = posts; i <= 8; i++) {
            probes.add(new Probe("a post more", x -> x.post()));
        }
        for (int i = legs; i <= 20; i++) {
            probes.add(new Probe("a leg more", x -> x.leg(0, 1, 100)));
        }
        for (int i = things; i <= 40; i++) {
            probes.add(new Probe("a thing more", x -> x.mail(Postunion.PRINT, 1, 0, 1, 0, true)));
        }
        return probes;
    }
}
