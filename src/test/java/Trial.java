import java.util.ArrayList;
import java.util.List;

/**
 * An object under test and the calls that it has answered, so that equal objects can be made of them.
 * The document promises nothing after an object's 512th call, so none serves here for more.
 */
final class Trial {
    interface Call {
        Object on(Postunion x);
    }

    static final int MOST_CALLS = 512;

    private final Postunion union = new Postunion();
    private final List<Call> answered = new ArrayList<>();
    private Call last = null;
    private boolean isLastAnswered = false;
    private int calls = 0;
    private int posts = 0;
    private int legs = 0;
    private int things = 0;

    private Object make(Call call) {
        if (calls == MOST_CALLS) {
            throw new AssertionError("the test makes more calls on one object than the document promises");
        }
        calls++;
        last = call;
        isLastAnswered = false;
        Object answer = call.on(union);
        isLastAnswered = true;
        answered.add(call);
        return answer;
    }

    /** What can be told of an object otherwise for the latest call, if it was made last; empty if nothing. */
    String changeByLastCall() {
        List<Call> before = isLastAnswered ? answered.subList(0, answered.size() - 1) : answered;
        List<Call> after = new ArrayList<>(before);
        after.add(last);
        return new Told(posts, legs, things, before.size() + 1).difference(after, before);
    }

    int callsMade() {
        return calls;
    }

    // ---- the face

    int post() {
        int number = (Integer) make(x -> x.post());
        posts++;
        return number;
    }

    void rates(int post, int kind, int first, int further) {
        make(x -> {
            x.rates(post, kind, first, further);
            return "nothing";
        });
    }

    int due(int post, int kind, int cents) {
        return (Integer) make(x -> x.due(post, kind, cents));
    }

    int charge(int post, int cents) {
        return (Integer) make(x -> x.charge(post, cents));
    }

    int coupon(int post, int cents) {
        return (Integer) make(x -> x.coupon(post, cents));
    }

    boolean strike(int post, boolean isSo) {
        return (Boolean) make(x -> x.strike(post, isSo));
    }

    int leg(int one, int other, int days) {
        int number = (Integer) make(x -> x.leg(one, other, days));
        legs++;
        return number;
    }

    boolean close(int leg, boolean isSo) {
        return (Boolean) make(x -> x.close(leg, isSo));
    }

    int days(int from, int to) {
        return (Integer) make(x -> x.days(from, to));
    }

    int daysAnew(int from, int to) {
        return (Integer) make(x -> x.daysAnew(from, to));
    }

    int next(int from, int to) {
        return (Integer) make(x -> x.next(from, to));
    }

    int mail(int kind, int from, int to, int grams, int paid, boolean isRegistered) {
        int number = (Integer) make(x -> x.mail(kind, from, to, grams, paid, isRegistered));
        things++;
        return number;
    }

    int redirect(int thing, int to) {
        return (Integer) make(x -> x.redirect(thing, to));
    }

    boolean refuse(int thing, boolean isSo) {
        return (Boolean) make(x -> x.refuse(thing, isSo));
    }

    int go(int days) {
        return (Integer) make(x -> x.go(days));
    }

    int lose(int thing) {
        return (Integer) make(x -> x.lose(thing));
    }

    int claim(int thing) {
        return (Integer) make(x -> x.claim(thing));
    }

    boolean sample(boolean isSo) {
        return (Boolean) make(x -> x.sample(isSo));
    }

    long settle(int factor) {
        return (Long) make(x -> x.settle(factor));
    }

    int rate(int kind, int from, int grams, boolean isRegistered) {
        return (Integer) make(x -> x.rate(kind, from, grams, isRegistered));
    }

    long ofThing(int thing, int what) {
        return (Long) make(x -> x.ofThing(thing, what));
    }

    int hand(int thing, int place) {
        return (Integer) make(x -> x.hand(thing, place));
    }

    long account(int post) {
        return (Long) make(x -> x.account(post));
    }

    long till(int post) {
        return (Long) make(x -> x.till(post));
    }

    long counted(int from, int to) {
        return (Long) make(x -> x.counted(from, to));
    }

    int gain(int what) {
        return (Integer) make(x -> x.gain(what));
    }
}
