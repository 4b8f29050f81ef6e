import com.sun.management.ThreadMXBean;
import java.lang.management.ManagementFactory;

/**
 * What a run of 512 calls makes, its dearest calls among them. A field or an element takes a byte or more
 * and an object 16, so a run that makes less than a million bytes makes less than a million of the one and
 * 62,500 of the other: the room for all calls of a run (some 600,000 objects and arrays, 7.3 million fields
 * and elements) is far above that.
 */
public final class RoomTest {
    private static final long MOST_BYTES = 1_000_000;
    private static final int LETTER = Postunion.LETTER;
    private static final ThreadMXBean THREADS = (ThreadMXBean) ManagementFactory.getThreadMXBean();
    private static final Checks checks = new Checks("RoomTest");

    private interface Run {
        /** Answers how many calls it has made. */
        int on(Postunion x);
    }

    public static void main(String[] args) {
        checkRun("things that go to and fro, each hand kept", RoomTest::toAndFro);
        checkRun("legs that are closed and opened", RoomTest::closings);
        checkRun("ways, found anew", RoomTest::waysAnew);
        checkRun("calls that are refused", RoomTest::refusals);
        checkRun("days that go by", RoomTest::days);
        checks.end();
    }

    private static void checkRun(String what, Run run) {
        long before = THREADS.getCurrentThreadAllocatedBytes();
        int calls = run.on(new Postunion());
        long made = THREADS.getCurrentThreadAllocatedBytes() - before;
        checks.is(what + ": calls", calls, 512);
        checks.is(what + ": " + made + " bytes are made, which is too much", made > MOST_BYTES, false);
    }

    /**
     * Forty registered things on a row. The short leg from its first post to their target is now open and
     * now closed, so that they turn at each end of the row, and never come to the target.
     */
    private static int toAndFro(Postunion x) {
        int calls = withRow(x, 7);
        int onlyAtTimes = x.leg(0, 7, 1);
        x.leg(6, 7, 100);
        x.close(onlyAtTimes, true);
        for (int thing = 0; thing < 40; thing++) {
            x.mail(LETTER, 0, 7, 1, 0, true);
        }
        x.go(6);
        calls += 44;
        for (boolean isClosed = false; calls < 510; isClosed = !isClosed) {
            x.close(onlyAtTimes, isClosed);
            x.go(6);
            calls += 2;
        }
        checks.is("they travel still", x.ofThing(39, 0), Postunion.TRAVELS);
        checks.is("hands", x.ofThing(39, 6), 6 + 6 * 226);
        return calls + 2;
    }

    private static int closings(Postunion x) {
        int calls = withRow(x, 8) + legsUpTo20(x);
        for (; calls < 512; calls++) {
            x.close(calls % 20, calls % 40 < 20);
        }
        return calls;
    }

    private static int waysAnew(Postunion x) {
        int calls = withRow(x, 8) + legsUpTo20(x);
        for (; calls < 512; calls++) {
            x.daysAnew(calls % 8, (calls + 1 + calls / 8 % 7) % 8);
        }
        return calls;
    }

    private static int refusals(Postunion x) {
        int calls = withRow(x, 8);
        for (; calls < 512; calls++) {
            try {
                x.mail(LETTER, 0, 0, 1, 0, true);
            } catch (IllegalArgumentException due) {
                continue;
            }
            checks.is("call " + calls + " is refused", false, true);
        }
        return calls;
    }

    private static int days(Postunion x) {
        int calls = withRow(x, 8);
        x.close(6, true);
        for (int thing = 0; thing < 40; thing++) {
            x.mail(LETTER, 0, 7, 1, 0, true);
        }
        for (calls += 41; calls < 512; calls++) {
            x.go(200);
        }
        return calls;
    }

    /** Eight posts, and a row of legs of a day between the first ones; answers how many calls it takes. */
    private static int withRow(Postunion x, int ofRow) {
        for (int post = 0; post < 8; post++) {
            x.post();
        }
        for (int post = 1; post < ofRow; post++) {
            x.leg(post - 1, post, 1);
        }
        return 8 + ofRow - 1;
    }

    private static int legsUpTo20(Postunion x) {
        for (int leg = 7; leg < 20; leg++) {
            x.leg(leg % 8, (leg + 2 + leg / 8) % 8, leg);
        }
        return 13;
    }
}
