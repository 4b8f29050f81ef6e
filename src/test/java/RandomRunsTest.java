import java.lang.reflect.InvocationTargetException;
import java.lang.reflect.Method;
import java.util.ArrayList;
import java.util.Arrays;
import java.util.HashMap;
import java.util.List;
import java.util.Map;
import java.util.Random;
import java.util.function.Supplier;

/**
 * Runs of 512 calls, the same ones each time, of which each answer must be that of the Model; and all that
 * can be asked after the first calls of a run, of as many equal objects as are needed for that.
 */
public final class RandomRunsTest {
    private static final int RUNS = 400;
    private static final int CALLS = 512;
    private static final int CALLS_BEFORE_ALL_IS_ASKED = 312;
    private static final int[] ODD = {-1, 0, 8, 20, 40, 201, 2001, 10001, 100001,
        Integer.MIN_VALUE, Integer.MIN_VALUE + 1, Integer.MAX_VALUE, Integer.MAX_VALUE - 19};
    /** A method, how often it is called, and of which sort each argument is. */
    private static final String[] CALLS_KNOWN = {
        "post 3", "rates 10 post kind cents cents", "due 10 post kind cents", "charge 8 post charge",
        "coupon 8 post cents", "strike 8 post bool", "leg 14 post post days", "close 14 leg bool",
        "days 6 post post", "daysAnew 6 post post", "next 6 post post",
        "mail 30 kind post post grams paid bool", "redirect 30 thing post", "refuse 20 thing bool",
        "go 60 span", "lose 6 thing", "claim 8 thing", "sample 6 bool", "settle 4 factor",
        "rate 6 kind post grams bool", "ofThing 40 thing what", "hand 14 thing place",
        "account 14 post", "till 14 post", "counted 14 post post", "gain 8 what"};

    private static final Checks checks = new Checks("RandomRunsTest");
    private static final Map<String, Integer> answered = new HashMap<>();
    private static final Map<String, Method> methods = new HashMap<>();

    public static void main(String[] args) {
        List<String> drawn = new ArrayList<>();
        for (String call : CALLS_KNOWN) {
            int often = Integer.parseInt(call.split(" ")[1]);
            for (int i = 0; i < often; i++) {
                drawn.add(call);
            }
        }
        for (int run = 0; run < RUNS; run++) {
            checkRun(run, drawn);
        }
        checkEachKindOfAnswer();
        checks.end();
    }

    private static void checkRun(int run, List<String> drawn) {
        Random random = new Random(run);
        Postunion x = new Postunion();
        Model model = new Model();
        int posts = 2 + random.nextInt(7);
        int legs = random.nextInt(16);
        String wrong = "";
        List<Made> made = new ArrayList<>();
        for (int i = 0; i < CALLS && wrong.isEmpty(); i++) {
            String call = i < posts ? "post 1" : i < posts + legs ? "leg 1 post post days" : drawn.get(random.nextInt(drawn.size()));
            String[] parts = call.split(" ");
            Object[] arguments = new Object[parts.length - 2];
            for (int a = 0; a < arguments.length; a++) {
                arguments[a] = draw(parts[a + 2], random, posts);
            }
            made.add(new Made(parts[0], arguments));
            Object got = answer(x, parts[0], arguments);
            Object want = answer(model, parts[0], arguments);
            String kind = want instanceof String ? " " + want : " answers";
            answered.merge(parts[0] + kind, 1, Integer::sum);
            if (!got.equals(want)) {
                wrong = "call " + i + ", " + parts[0] + Arrays.toString(arguments) + ", answered " + got + ", due is " + want;
            }
        }
        checks.is("run " + run, wrong, "");
        if (wrong.isEmpty()) {
            List<Made> before = made.subList(0, CALLS_BEFORE_ALL_IS_ASKED);
            String got = allOf(new Asker(Postunion::new, before, CALLS), posts);
            String want = allOf(new Asker(Model::new, before, Integer.MAX_VALUE), posts);
            checks.is("all that can be asked in run " + run, got, want);
        }
    }

    private record Made(String name, Object[] arguments) {
    }

    /** Asks an object with these calls; as it has served for so many calls as it may, an equal one. */
    private static final class Asker {
        private final Supplier<Object> maker;
        private final List<Made> before;
        private final int most;
        private Object of = null;
        private int calls;

        Asker(Supplier<Object> maker, List<Made> before, int most) {
            this.maker = maker;
            this.before = before;
            this.most = most;
            this.calls = most;
        }

        Object ask(String name, Object... arguments) {
            if (calls == most) {
                of = maker.get();
                for (Made call : before) {
                    answer(of, call.name, call.arguments);
                }
                calls = before.size();
            }
            calls++;
            return answer(of, name, arguments);
        }
    }

    private static Object draw(String sort, Random random, int posts) {
        if (sort.equals("bool")) {
            return random.nextInt(5) < 3;
        }
        if (random.nextInt(60) == 0) {
            return ODD[random.nextInt(ODD.length)];
        }
        boolean isEdge = random.nextInt(12) == 0;
        switch (sort) {
            case "post": return random.nextInt(posts);
            case "kind": return random.nextInt(3);
            case "leg": return random.nextInt(16);
            case "thing": return random.nextInt(random.nextBoolean() ? 6 : 41);
            case "cents": return isEdge ? 10000 * random.nextInt(2) : random.nextInt(60);
            case "charge": return isEdge ? 1000 * random.nextInt(2) : random.nextInt(9);
            case "days": return isEdge ? 100 * random.nextInt(2) : 1 + random.nextInt(4);
            case "grams": return isEdge ? 2000 * random.nextInt(2) : 1 + random.nextInt(random.nextBoolean() ? 20 : 60);
            case "paid": return isEdge ? 100000 * random.nextInt(2) : random.nextInt(80);
            case "span": return isEdge ? 1 + random.nextInt(12) : 1 + random.nextInt(2);
            case "factor": return 1 + random.nextInt(1000);
            case "what": return random.nextInt(7);
            case "place": return random.nextInt(6);
            default: throw new IllegalArgumentException(sort);
        }
    }

    private static Object answer(Object of, String name, Object... arguments) {
        Method method = methods.computeIfAbsent(of.getClass().getName() + "." + name, key -> method(of, name));
        try {
            Object got = method.invoke(of, arguments);
            return got == null ? 0 : got;
        } catch (InvocationTargetException thrown) {
            return "throws." + thrown.getCause().getClass().getName();
        } catch (IllegalAccessException closed) {
            throw new IllegalStateException(closed);
        }
    }

    private static Method method(Object of, String name) {
        for (Method method : of.getClass().getDeclaredMethods()) {
            if (method.getName().equals(name) && java.lang.reflect.Modifier.isPublic(method.getModifiers())) {
                return method;
            }
        }
        throw new IllegalArgumentException(name);
    }

    private static String allOf(Asker x, int posts) {
        StringBuilder told = new StringBuilder();
        for (int one = 0; one < posts; one++) {
            told.append("\npost ").append(one).append(' ').append(x.ask("account", one)).append(' ').append(x.ask("till", one));
            for (int other = 0; other < posts; other++) {
                told.append(' ').append(x.ask("counted", one, other)).append(' ').append(x.ask("next", one, other));
                told.append(' ').append(x.ask("days", one, other)).append(' ').append(x.ask("daysAnew", one, other));
            }
        }
        for (int thing = 0; thing < 40; thing++) {
            told.append("\nthing ").append(thing);
            for (int what = 0; what < 7; what++) {
                told.append(' ').append(x.ask("ofThing", thing, what));
            }
            for (int place = 0; place < 12; place++) {
                told.append(' ').append(x.ask("hand", thing, place));
            }
        }
        return told.toString();
    }

    /** Runs that never reach an answer or an exception would show nothing about it. */
    private static void checkEachKindOfAnswer() {
        for (String call : CALLS_KNOWN) {
            String name = call.split(" ")[0];
            checks.is(name + " answers in some run", answered.containsKey(name + " answers"), true);
            for (Class<?> thrown : method(new Postunion(), name).getExceptionTypes()) {
                checks.is(name + " throws in some run " + thrown, answered.containsKey(name + " throws." + thrown.getName()), true);
            }
        }
    }
}
